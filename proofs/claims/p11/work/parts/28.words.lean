theorem dX4_gatherWaiting_7 : decode cX4_gatherWaiting 7 = .ok (.iload_n 2, 1) := by decide +kernel
theorem dX4_gatherWaiting_8 : decode cX4_gatherWaiting 8 = .ok (.aload_n 1, 1) := by decide +kernel
theorem kw_1_227 : Cond.fieldLink RX4 78 "IceFair$Fair" "boothCount" "I" ∈ gw := gw_t1 (List.mem_of_getElem? (i := 227) (by decide +kernel)) (by decide +kernel)
theorem dX4_gatherWaiting_9 : decode cX4_gatherWaiting 9 = .ok (.getfield 78, 3) := by decide +kernel
theorem dX4_gatherWaiting_12 : decode cX4_gatherWaiting 12 = .ok (.if_icmp .ge 47, 3) := by decide +kernel
theorem dX4_gatherWaiting_15 : decode cX4_gatherWaiting 15 = .ok (.iload_n 2, 1) := by decide +kernel
theorem dX4_gatherWaiting_16 : decode cX4_gatherWaiting 16 = .ok (.bipush 10, 2) := by decide +kernel
theorem dX4_gatherWaiting_18 : decode cX4_gatherWaiting 18 = .ok (.if_icmp .ge 41, 3) := by decide +kernel
theorem dX4_gatherWaiting_21 : decode cX4_gatherWaiting 21 = .ok (.aload_n 1, 1) := by decide +kernel
theorem kw_1_224 : Cond.fieldLink RX4 81 "IceFair$Fair" "booths" "[LIceFair$Booth;" ∈ gw := gw_t1 (List.mem_of_getElem? (i := 224) (by decide +kernel)) (by decide +kernel)
theorem dX4_gatherWaiting_22 : decode cX4_gatherWaiting 22 = .ok (.getfield 81, 3) := by decide +kernel
theorem dX4_gatherWaiting_25 : decode cX4_gatherWaiting 25 = .ok (.iload_n 2, 1) := by decide +kernel
theorem dX4_gatherWaiting_26 : decode cX4_gatherWaiting 26 = .ok (.aaload, 1) := by decide +kernel
theorem kw_1_191 : Cond.fieldLink RX4 85 "IceFair$Booth" "state" "I" ∈ gw := gw_t1 (List.mem_of_getElem? (i := 191) (by decide +kernel)) (by decide +kernel)
theorem dX4_gatherWaiting_27 : decode cX4_gatherWaiting 27 = .ok (.getfield 85, 3) := by decide +kernel
theorem dX4_gatherWaiting_30 : decode cX4_gatherWaiting 30 = .ok (.ifCond .ne 23, 3) := by decide +kernel
theorem dX4_gatherWaiting_53 : decode cX4_gatherWaiting 53 = .ok (.iinc 2 1, 3) := by decide +kernel
theorem dX4_gatherWaiting_56 : decode cX4_gatherWaiting 56 = .ok (.goto (-49), 3) := by decide +kernel
theorem dX4_gatherWaiting_33 : decode cX4_gatherWaiting 33 = .ok (.aload_n 0, 1) := by decide +kernel
theorem dX4_gatherWaiting_34 : decode cX4_gatherWaiting 34 = .ok (.getfield 9, 3) := by decide +kernel
theorem dX4_gatherWaiting_37 : decode cX4_gatherWaiting 37 = .ok (.aload_n 0, 1) := by decide +kernel
theorem kw_2_16 : Cond.fieldLink RX4 75 "IceFair$Laying" "waitingCount" "I" ∈ gw := gw_t2 (List.mem_of_getElem? (i := 16) (by decide +kernel)) (by decide +kernel)
theorem dX4_gatherWaiting_38 : decode cX4_gatherWaiting 38 = .ok (.getfield 75, 3) := by decide +kernel
theorem dX4_gatherWaiting_41 : decode cX4_gatherWaiting 41 = .ok (.iload_n 2, 1) := by decide +kernel
theorem dX4_gatherWaiting_42 : decode cX4_gatherWaiting 42 = .ok (.iastore, 1) := by decide +kernel
theorem dX4_gatherWaiting_43 : decode cX4_gatherWaiting 43 = .ok (.aload_n 0, 1) := by decide +kernel
theorem dX4_gatherWaiting_44 : decode cX4_gatherWaiting 44 = .ok (.dup, 1) := by decide +kernel
theorem dX4_gatherWaiting_45 : decode cX4_gatherWaiting 45 = .ok (.getfield 75, 3) := by decide +kernel
theorem dX4_gatherWaiting_48 : decode cX4_gatherWaiting 48 = .ok (.iconst 1, 1) := by decide +kernel
theorem dX4_gatherWaiting_49 : decode cX4_gatherWaiting 49 = .ok (.iadd, 1) := by decide +kernel
theorem dX4_gatherWaiting_50 : decode cX4_gatherWaiting 50 = .ok (.putfield 75, 3) := by decide +kernel
theorem dX4_gatherWaiting_0 : decode cX4_gatherWaiting 0 = .ok (.aload_n 0, 1) := by decide +kernel
theorem dX4_gatherWaiting_1 : decode cX4_gatherWaiting 1 = .ok (.iconst 0, 1) := by decide +kernel
theorem dX4_gatherWaiting_2 : decode cX4_gatherWaiting 2 = .ok (.putfield 75, 3) := by decide +kernel
theorem dX4_gatherWaiting_5 : decode cX4_gatherWaiting 5 = .ok (.iconst 0, 1) := by decide +kernel
theorem dX4_gatherWaiting_6 : decode cX4_gatherWaiting 6 = .ok (.istore_n 2, 1) := by decide +kernel
theorem dX4_gatherWaiting_59 : decode cX4_gatherWaiting 59 = .ok (.return_, 1) := by decide +kernel
theorem dX4_gatherOpen_20 : decode cX4_gatherOpen 20 = .ok (.iload_n 3, 1) := by decide +kernel
theorem dX4_gatherOpen_21 : decode cX4_gatherOpen 21 = .ok (.aload_n 1, 1) := by decide +kernel
theorem kw_1_220 : Cond.fieldLink RX4 39 "IceFair$Fair" "river" "LIceFair$River;" ∈ gw := gw_t1 (List.mem_of_getElem? (i := 220) (by decide +kernel)) (by decide +kernel)
theorem dX4_gatherOpen_22 : decode cX4_gatherOpen 22 = .ok (.getfield 39, 3) := by decide +kernel
theorem kw_1_143 : Cond.fieldLink RX4 96 "IceFair$River" "width" "I" ∈ gw := gw_t1 (List.mem_of_getElem? (i := 143) (by decide +kernel)) (by decide +kernel)
theorem dX4_gatherOpen_25 : decode cX4_gatherOpen 25 = .ok (.getfield 96, 3) := by decide +kernel
theorem dX4_gatherOpen_28 : decode cX4_gatherOpen 28 = .ok (.if_icmp .ge 93, 3) := by decide +kernel
theorem dX4_gatherOpen_31 : decode cX4_gatherOpen 31 = .ok (.aload_n 1, 1) := by decide +kernel
theorem dX4_gatherOpen_32 : decode cX4_gatherOpen 32 = .ok (.getfield 39, 3) := by decide +kernel
theorem dX4_gatherOpen_35 : decode cX4_gatherOpen 35 = .ok (.iload_n 3, 1) := by decide +kernel
theorem dX4_gatherOpen_36 : decode cX4_gatherOpen 36 = .ok (.iload_n 2, 1) := by decide +kernel
theorem kw_3_202 : Cond.methodLink RX4 99 yX6_isOpen ∈ gw := gw_t3 (List.mem_of_getElem? (i := 202) (by decide +kernel)) (by decide +kernel)
theorem gk_X4_99 : GoodIn gw (wsV RX4 99 RX6 yX6_isOpen (.code yX6_isOpen cX6_isOpen 3 (some .boolean) :: gw)) ∧ (yX6_isOpen.cls = RX6 ∧ yX6_isOpen.cls ≠ "java/lang/invoke/MethodHandle" ∧ yX6_isOpen.cls ≠ "java/lang/invoke/VarHandle" ∧ (parseMethodDescriptor yX6_isOpen.desc).map (fun d => d.parameters.length) = some 2) := ⟨gi_V kw_3_202 kw_3_40 kw_3_41 kw_1_7 kw_3_42, by decide +kernel⟩
theorem dX4_gatherOpen_37 : decode cX4_gatherOpen 37 = .ok (.invokevirtual 99, 3) := by decide +kernel
theorem dX4_gatherOpen_40 : decode cX4_gatherOpen 40 = .ok (.ifCond .eq 75, 3) := by decide +kernel
theorem dX4_gatherOpen_115 : decode cX4_gatherOpen 115 = .ok (.iinc 3 1, 3) := by decide +kernel
theorem dX4_gatherOpen_118 : decode cX4_gatherOpen 118 = .ok (.goto (-98), 3) := by decide +kernel
theorem dX4_gatherOpen_43 : decode cX4_gatherOpen 43 = .ok (.aload_n 0, 1) := by decide +kernel
theorem kw_2_20 : Cond.fieldLink RX4 90 "IceFair$Laying" "openCount" "I" ∈ gw := gw_t2 (List.mem_of_getElem? (i := 20) (by decide +kernel)) (by decide +kernel)
theorem dX4_gatherOpen_44 : decode cX4_gatherOpen 44 = .ok (.getfield 90, 3) := by decide +kernel
theorem dX4_gatherOpen_47 : decode cX4_gatherOpen 47 = .ok (.bipush 100, 2) := by decide +kernel
theorem dX4_gatherOpen_49 : decode cX4_gatherOpen 49 = .ok (.if_icmp .ge 66, 3) := by decide +kernel
theorem dX4_gatherOpen_52 : decode cX4_gatherOpen 52 = .ok (.aload_n 0, 1) := by decide +kernel
theorem dX4_gatherOpen_53 : decode cX4_gatherOpen 53 = .ok (.getfield 15, 3) := by decide +kernel
theorem dX4_gatherOpen_56 : decode cX4_gatherOpen 56 = .ok (.aload_n 0, 1) := by decide +kernel
theorem dX4_gatherOpen_57 : decode cX4_gatherOpen 57 = .ok (.getfield 90, 3) := by decide +kernel
theorem dX4_gatherOpen_60 : decode cX4_gatherOpen 60 = .ok (.iload_n 3, 1) := by decide +kernel
theorem dX4_gatherOpen_61 : decode cX4_gatherOpen 61 = .ok (.iastore, 1) := by decide +kernel
theorem dX4_gatherOpen_62 : decode cX4_gatherOpen 62 = .ok (.aload_n 0, 1) := by decide +kernel
theorem dX4_gatherOpen_63 : decode cX4_gatherOpen 63 = .ok (.getfield 18, 3) := by decide +kernel
theorem dX4_gatherOpen_66 : decode cX4_gatherOpen 66 = .ok (.aload_n 0, 1) := by decide +kernel
theorem dX4_gatherOpen_67 : decode cX4_gatherOpen 67 = .ok (.getfield 90, 3) := by decide +kernel
theorem dX4_gatherOpen_70 : decode cX4_gatherOpen 70 = .ok (.iload_n 2, 1) := by decide +kernel
theorem dX4_gatherOpen_71 : decode cX4_gatherOpen 71 = .ok (.iastore, 1) := by decide +kernel
theorem dX4_gatherOpen_72 : decode cX4_gatherOpen 72 = .ok (.aload_n 0, 1) := by decide +kernel
theorem dX4_gatherOpen_73 : decode cX4_gatherOpen 73 = .ok (.getfield 21, 3) := by decide +kernel
theorem dX4_gatherOpen_76 : decode cX4_gatherOpen 76 = .ok (.aload_n 0, 1) := by decide +kernel
theorem dX4_gatherOpen_77 : decode cX4_gatherOpen 77 = .ok (.getfield 90, 3) := by decide +kernel
theorem dX4_gatherOpen_80 : decode cX4_gatherOpen 80 = .ok (.aload_n 1, 1) := by decide +kernel
theorem dX4_gatherOpen_81 : decode cX4_gatherOpen 81 = .ok (.getfield 39, 3) := by decide +kernel
theorem dX4_gatherOpen_84 : decode cX4_gatherOpen 84 = .ok (.aload_n 1, 1) := by decide +kernel
theorem kw_1_217 : Cond.fieldLink RX4 45 "IceFair$Fair" "customs" "LIceFair$Customs;" ∈ gw := gw_t1 (List.mem_of_getElem? (i := 217) (by decide +kernel)) (by decide +kernel)
theorem dX4_gatherOpen_85 : decode cX4_gatherOpen 85 = .ok (.getfield 45, 3) := by decide +kernel
theorem kw_3_203 : Cond.methodLink RX4 103 yX1_near ∈ gw := gw_t3 (List.mem_of_getElem? (i := 203) (by decide +kernel)) (by decide +kernel)
theorem gk_X4_103 : GoodIn gw (wsV RX4 103 RX1 yX1_near (.code yX1_near cX1_near 1 (some .int) :: gw)) ∧ (yX1_near.cls = RX1 ∧ yX1_near.cls ≠ "java/lang/invoke/MethodHandle" ∧ yX1_near.cls ≠ "java/lang/invoke/VarHandle" ∧ (parseMethodDescriptor yX1_near.desc).map (fun d => d.parameters.length) = some 0) := ⟨gi_V kw_3_203 kw_3_48 kw_3_49 kw_1_4 kw_3_50, by decide +kernel⟩
theorem dX4_gatherOpen_88 : decode cX4_gatherOpen 88 = .ok (.invokevirtual 103, 3) := by decide +kernel
theorem dX4_gatherOpen_91 : decode cX4_gatherOpen 91 = .ok (.iload_n 3, 1) := by decide +kernel
theorem dX4_gatherOpen_92 : decode cX4_gatherOpen 92 = .ok (.iload_n 2, 1) := by decide +kernel
theorem kw_3_204 : Cond.methodLink RX4 106 yX6_hasCrackNearerThan ∈ gw := gw_t3 (List.mem_of_getElem? (i := 204) (by decide +kernel)) (by decide +kernel)
theorem gk_X4_106 : GoodIn gw (wsV RX4 106 RX6 yX6_hasCrackNearerThan (.code yX6_hasCrackNearerThan cX6_hasCrackNearerThan 6 (some .boolean) :: gw)) ∧ (yX6_hasCrackNearerThan.cls = RX6 ∧ yX6_hasCrackNearerThan.cls ≠ "java/lang/invoke/MethodHandle" ∧ yX6_hasCrackNearerThan.cls ≠ "java/lang/invoke/VarHandle" ∧ (parseMethodDescriptor yX6_hasCrackNearerThan.desc).map (fun d => d.parameters.length) = some 3) := ⟨gi_V kw_3_204 kw_3_52 kw_3_53 kw_1_7 kw_3_54, by decide +kernel⟩
theorem dX4_gatherOpen_93 : decode cX4_gatherOpen 93 = .ok (.invokevirtual 106, 3) := by decide +kernel
theorem dX4_gatherOpen_96 : decode cX4_gatherOpen 96 = .ok (.ifCond .ne 7, 3) := by decide +kernel
theorem dX4_gatherOpen_103 : decode cX4_gatherOpen 103 = .ok (.iconst 0, 1) := by decide +kernel
theorem dX4_gatherOpen_104 : decode cX4_gatherOpen 104 = .ok (.bastore, 1) := by decide +kernel
theorem dX4_gatherOpen_105 : decode cX4_gatherOpen 105 = .ok (.aload_n 0, 1) := by decide +kernel
theorem dX4_gatherOpen_106 : decode cX4_gatherOpen 106 = .ok (.dup, 1) := by decide +kernel
theorem dX4_gatherOpen_107 : decode cX4_gatherOpen 107 = .ok (.getfield 90, 3) := by decide +kernel
theorem dX4_gatherOpen_110 : decode cX4_gatherOpen 110 = .ok (.iconst 1, 1) := by decide +kernel
theorem dX4_gatherOpen_111 : decode cX4_gatherOpen 111 = .ok (.iadd, 1) := by decide +kernel
theorem dX4_gatherOpen_112 : decode cX4_gatherOpen 112 = .ok (.putfield 90, 3) := by decide +kernel
theorem dX4_gatherOpen_99 : decode cX4_gatherOpen 99 = .ok (.iconst 1, 1) := by decide +kernel
theorem dX4_gatherOpen_100 : decode cX4_gatherOpen 100 = .ok (.goto 4, 3) := by decide +kernel
theorem dX4_gatherOpen_7 : decode cX4_gatherOpen 7 = .ok (.iload_n 2, 1) := by decide +kernel
theorem dX4_gatherOpen_8 : decode cX4_gatherOpen 8 = .ok (.aload_n 1, 1) := by decide +kernel
theorem dX4_gatherOpen_9 : decode cX4_gatherOpen 9 = .ok (.getfield 39, 3) := by decide +kernel
theorem kw_1_146 : Cond.fieldLink RX4 93 "IceFair$River" "height" "I" ∈ gw := gw_t1 (List.mem_of_getElem? (i := 146) (by decide +kernel)) (by decide +kernel)
theorem dX4_gatherOpen_12 : decode cX4_gatherOpen 12 = .ok (.getfield 93, 3) := by decide +kernel
theorem dX4_gatherOpen_15 : decode cX4_gatherOpen 15 = .ok (.if_icmp .ge 112, 3) := by decide +kernel
theorem dX4_gatherOpen_18 : decode cX4_gatherOpen 18 = .ok (.iconst 0, 1) := by decide +kernel
theorem dX4_gatherOpen_19 : decode cX4_gatherOpen 19 = .ok (.istore_n 3, 1) := by decide +kernel
theorem dX4_gatherOpen_121 : decode cX4_gatherOpen 121 = .ok (.iinc 2 1, 3) := by decide +kernel
theorem dX4_gatherOpen_124 : decode cX4_gatherOpen 124 = .ok (.goto (-117), 3) := by decide +kernel
theorem dX4_gatherOpen_0 : decode cX4_gatherOpen 0 = .ok (.aload_n 0, 1) := by decide +kernel
theorem dX4_gatherOpen_1 : decode cX4_gatherOpen 1 = .ok (.iconst 0, 1) := by decide +kernel
theorem dX4_gatherOpen_2 : decode cX4_gatherOpen 2 = .ok (.putfield 90, 3) := by decide +kernel
theorem dX4_gatherOpen_5 : decode cX4_gatherOpen 5 = .ok (.iconst 0, 1) := by decide +kernel
theorem dX4_gatherOpen_6 : decode cX4_gatherOpen 6 = .ok (.istore_n 2, 1) := by decide +kernel
theorem dX4_gatherOpen_127 : decode cX4_gatherOpen 127 = .ok (.return_, 1) := by decide +kernel
theorem dX4_setNext_31 : decode cX4_setNext 31 = .ok (.iload 4, 2) := by decide +kernel
theorem dX4_setNext_33 : decode cX4_setNext 33 = .ok (.aload_n 0, 1) := by decide +kernel
theorem dX4_setNext_34 : decode cX4_setNext 34 = .ok (.getfield 90, 3) := by decide +kernel
theorem dX4_setNext_37 : decode cX4_setNext 37 = .ok (.if_icmp .ge 133, 3) := by decide +kernel
theorem dX4_setNext_40 : decode cX4_setNext 40 = .ok (.iload 4, 2) := by decide +kernel
theorem dX4_setNext_42 : decode cX4_setNext 42 = .ok (.bipush 100, 2) := by decide +kernel
theorem dX4_setNext_44 : decode cX4_setNext 44 = .ok (.if_icmp .ge 126, 3) := by decide +kernel
theorem dX4_setNext_47 : decode cX4_setNext 47 = .ok (.aload_n 1, 1) := by decide +kernel
theorem dX4_setNext_48 : decode cX4_setNext 48 = .ok (.getfield 39, 3) := by decide +kernel
theorem dX4_setNext_51 : decode cX4_setNext 51 = .ok (.aload_n 0, 1) := by decide +kernel
theorem dX4_setNext_52 : decode cX4_setNext 52 = .ok (.getfield 15, 3) := by decide +kernel
theorem dX4_setNext_55 : decode cX4_setNext 55 = .ok (.iload 4, 2) := by decide +kernel
theorem dX4_setNext_57 : decode cX4_setNext 57 = .ok (.iaload, 1) := by decide +kernel
theorem dX4_setNext_58 : decode cX4_setNext 58 = .ok (.aload_n 0, 1) := by decide +kernel
theorem dX4_setNext_59 : decode cX4_setNext 59 = .ok (.getfield 18, 3) := by decide +kernel
theorem dX4_setNext_62 : decode cX4_setNext 62 = .ok (.iload 4, 2) := by decide +kernel
theorem dX4_setNext_64 : decode cX4_setNext 64 = .ok (.iaload, 1) := by decide +kernel
theorem dX4_setNext_65 : decode cX4_setNext 65 = .ok (.invokevirtual 99, 3) := by decide +kernel
theorem dX4_setNext_68 : decode cX4_setNext 68 = .ok (.ifCond .ne 6, 3) := by decide +kernel
theorem dX4_setNext_74 : decode cX4_setNext 74 = .ok (.aload_n 0, 1) := by decide +kernel
theorem dX4_setNext_75 : decode cX4_setNext 75 = .ok (.dup, 1) := by decide +kernel
theorem kw_2_13 : Cond.fieldLink RX4 28 "IceFair$Laying" "looks" "I" ∈ gw := gw_t2 (List.mem_of_getElem? (i := 13) (by decide +kernel)) (by decide +kernel)
theorem dX4_setNext_76 : decode cX4_setNext 76 = .ok (.getfield 28, 3) := by decide +kernel
theorem dX4_setNext_79 : decode cX4_setNext 79 = .ok (.iconst 1, 1) := by decide +kernel
theorem dX4_setNext_80 : decode cX4_setNext 80 = .ok (.iadd, 1) := by decide +kernel
theorem dX4_setNext_81 : decode cX4_setNext 81 = .ok (.putfield 28, 3) := by decide +kernel
theorem dX4_setNext_84 : decode cX4_setNext 84 = .ok (.aload_n 0, 1) := by decide +kernel
theorem dX4_setNext_85 : decode cX4_setNext 85 = .ok (.getfield 28, 3) := by decide +kernel
theorem dX4_setNext_88 : decode cX4_setNext 88 = .ok (.sipush 20000, 3) := by decide +kernel
theorem dX4_setNext_91 : decode cX4_setNext 91 = .ok (.if_icmp .le 5, 3) := by decide +kernel
theorem dX4_setNext_96 : decode cX4_setNext 96 = .ok (.aload_n 0, 1) := by decide +kernel
theorem kw_2_22 : Cond.fieldLink RX4 61 "IceFair$Laying" "allBears" "Z" ∈ gw := gw_t2 (List.mem_of_getElem? (i := 22) (by decide +kernel)) (by decide +kernel)
theorem dX4_setNext_97 : decode cX4_setNext 97 = .ok (.getfield 61, 3) := by decide +kernel
theorem dX4_setNext_100 : decode cX4_setNext 100 = .ok (.ifCond .eq 64, 3) := by decide +kernel
theorem dX4_setNext_164 : decode cX4_setNext 164 = .ok (.iinc 4 1, 3) := by decide +kernel
theorem dX4_setNext_167 : decode cX4_setNext 167 = .ok (.goto (-136), 3) := by decide +kernel
theorem dX4_setNext_103 : decode cX4_setNext 103 = .ok (.aload_n 0, 1) := by decide +kernel
theorem dX4_setNext_104 : decode cX4_setNext 104 = .ok (.getfield 21, 3) := by decide +kernel
theorem dX4_setNext_107 : decode cX4_setNext 107 = .ok (.iload 4, 2) := by decide +kernel
theorem dX4_setNext_109 : decode cX4_setNext 109 = .ok (.baload, 1) := by decide +kernel
theorem dX4_setNext_110 : decode cX4_setNext 110 = .ok (.ifCond .eq 54, 3) := by decide +kernel
theorem dX4_setNext_113 : decode cX4_setNext 113 = .ok (.aload_n 1, 1) := by decide +kernel
theorem dX4_setNext_114 : decode cX4_setNext 114 = .ok (.aload_n 3, 1) := by decide +kernel
theorem dX4_setNext_115 : decode cX4_setNext 115 = .ok (.aload_n 0, 1) := by decide +kernel
theorem dX4_setNext_116 : decode cX4_setNext 116 = .ok (.getfield 15, 3) := by decide +kernel
theorem dX4_setNext_119 : decode cX4_setNext 119 = .ok (.iload 4, 2) := by decide +kernel
theorem dX4_setNext_121 : decode cX4_setNext 121 = .ok (.iaload, 1) := by decide +kernel
theorem dX4_setNext_122 : decode cX4_setNext 122 = .ok (.aload_n 0, 1) := by decide +kernel
theorem dX4_setNext_123 : decode cX4_setNext 123 = .ok (.getfield 18, 3) := by decide +kernel
theorem dX4_setNext_126 : decode cX4_setNext 126 = .ok (.iload 4, 2) := by decide +kernel
theorem dX4_setNext_128 : decode cX4_setNext 128 = .ok (.iaload, 1) := by decide +kernel
theorem kw_3_218 : Cond.methodLink RX4 129 yX3_suits ∈ gw := gw_t3 (List.mem_of_getElem? (i := 218) (by decide +kernel)) (by decide +kernel)
theorem gk_X4_129 : GoodIn gw (wsV RX4 129 RX3 yX3_suits (.code yX3_suits cX3_suits 4 (some .boolean) :: gw)) ∧ (yX3_suits.cls = RX3 ∧ yX3_suits.cls ≠ "java/lang/invoke/MethodHandle" ∧ yX3_suits.cls ≠ "java/lang/invoke/VarHandle" ∧ (parseMethodDescriptor yX3_suits.desc).map (fun d => d.parameters.length) = some 3) := ⟨gi_V kw_3_218 kw_3_68 kw_3_69 kw_1_6 kw_3_70, by decide +kernel⟩
theorem dX4_setNext_129 : decode cX4_setNext 129 = .ok (.invokevirtual 129, 3) := by decide +kernel
theorem dX4_setNext_132 : decode cX4_setNext 132 = .ok (.ifCond .eq 32, 3) := by decide +kernel
theorem dX4_setNext_71 : decode cX4_setNext 71 = .ok (.goto 93, 3) := by decide +kernel
theorem dX4_setNext_0 : decode cX4_setNext 0 = .ok (.aload_n 1, 1) := by decide +kernel
theorem dX4_setNext_1 : decode cX4_setNext 1 = .ok (.aload_n 0, 1) := by decide +kernel
theorem dX4_setNext_2 : decode cX4_setNext 2 = .ok (.getfield 9, 3) := by decide +kernel
theorem dX4_setNext_5 : decode cX4_setNext 5 = .ok (.iload_n 2, 1) := by decide +kernel
theorem dX4_setNext_6 : decode cX4_setNext 6 = .ok (.iaload, 1) := by decide +kernel
theorem kw_3_216 : Cond.methodLink RX4 119 yX3_boothNumbered ∈ gw := gw_t3 (List.mem_of_getElem? (i := 216) (by decide +kernel)) (by decide +kernel)
theorem gk_X4_119 : GoodIn gw (wsV RX4 119 RX3 yX3_boothNumbered (.code yX3_boothNumbered cX3_boothNumbered 2 (some (.object "IceFair$Booth")) :: gw)) ∧ (yX3_boothNumbered.cls = RX3 ∧ yX3_boothNumbered.cls ≠ "java/lang/invoke/MethodHandle" ∧ yX3_boothNumbered.cls ≠ "java/lang/invoke/VarHandle" ∧ (parseMethodDescriptor yX3_boothNumbered.desc).map (fun d => d.parameters.length) = some 1) := ⟨gi_V kw_3_216 kw_3_32 kw_3_33 kw_1_6 kw_3_34, by decide +kernel⟩
theorem dX4_setNext_7 : decode cX4_setNext 7 = .ok (.invokevirtual 119, 3) := by decide +kernel
theorem dX4_setNext_10 : decode cX4_setNext 10 = .ok (.astore_n 3, 1) := by decide +kernel
theorem dX4_setNext_11 : decode cX4_setNext 11 = .ok (.aload_n 3, 1) := by decide +kernel
theorem dX4_setNext_12 : decode cX4_setNext 12 = .ok (.ifnonnull 5, 3) := by decide +kernel
theorem dX4_setNext_17 : decode cX4_setNext 17 = .ok (.iconst 0, 1) := by decide +kernel
theorem dX4_setNext_18 : decode cX4_setNext 18 = .ok (.aload_n 0, 1) := by decide +kernel
theorem dX4_setNext_19 : decode cX4_setNext 19 = .ok (.getfield 25, 3) := by decide +kernel
theorem dX4_setNext_22 : decode cX4_setNext 22 = .ok (.iload_n 2, 1) := by decide +kernel
theorem dX4_setNext_23 : decode cX4_setNext 23 = .ok (.iaload, 1) := by decide +kernel
theorem dX4_setNext_24 : decode cX4_setNext 24 = .ok (.iconst 1, 1) := by decide +kernel
theorem dX4_setNext_25 : decode cX4_setNext 25 = .ok (.iadd, 1) := by decide +kernel
theorem kw_3_217 : Cond.methodLink RX4 123 Lib.Math.max.name ∈ gw := gw_t3 (List.mem_of_getElem? (i := 217) (by decide +kernel)) (by decide +kernel)
theorem dX4_setNext_26 : decode cX4_setNext 26 = .ok (.invokestatic 123, 3) := by decide +kernel
theorem dX4_setNext_29 : decode cX4_setNext 29 = .ok (.istore 4, 2) := by decide +kernel
theorem dX4_setNext_94 : decode cX4_setNext 94 = .ok (.iconst 0, 1) := by decide +kernel
theorem dX4_setNext_95 : decode cX4_setNext 95 = .ok (.ireturn, 1) := by decide +kernel
theorem dX4_setNext_135 : decode cX4_setNext 135 = .ok (.aload_n 0, 1) := by decide +kernel
theorem dX4_setNext_136 : decode cX4_setNext 136 = .ok (.getfield 25, 3) := by decide +kernel
theorem dX4_setNext_139 : decode cX4_setNext 139 = .ok (.iload_n 2, 1) := by decide +kernel
theorem dX4_setNext_140 : decode cX4_setNext 140 = .ok (.iload 4, 2) := by decide +kernel
theorem dX4_setNext_142 : decode cX4_setNext 142 = .ok (.iastore, 1) := by decide +kernel
theorem dX4_setNext_143 : decode cX4_setNext 143 = .ok (.aload_n 1, 1) := by decide +kernel
theorem dX4_setNext_144 : decode cX4_setNext 144 = .ok (.aload_n 3, 1) := by decide +kernel
theorem dX4_setNext_145 : decode cX4_setNext 145 = .ok (.aload_n 0, 1) := by decide +kernel
theorem dX4_setNext_146 : decode cX4_setNext 146 = .ok (.getfield 15, 3) := by decide +kernel
theorem dX4_setNext_149 : decode cX4_setNext 149 = .ok (.iload 4, 2) := by decide +kernel
theorem dX4_setNext_151 : decode cX4_setNext 151 = .ok (.iaload, 1) := by decide +kernel
theorem dX4_setNext_152 : decode cX4_setNext 152 = .ok (.aload_n 0, 1) := by decide +kernel
theorem dX4_setNext_153 : decode cX4_setNext 153 = .ok (.getfield 18, 3) := by decide +kernel
theorem dX4_setNext_156 : decode cX4_setNext 156 = .ok (.iload 4, 2) := by decide +kernel
theorem dX4_setNext_158 : decode cX4_setNext 158 = .ok (.iaload, 1) := by decide +kernel
theorem kw_3_219 : Cond.methodLink RX4 133 yX3_put ∈ gw := gw_t3 (List.mem_of_getElem? (i := 219) (by decide +kernel)) (by decide +kernel)
theorem kw_3_93 : Cond.instanceMethod yX3_put ∈ gw := gw_t3 (List.mem_of_getElem? (i := 93) (by decide +kernel)) (by decide +kernel)
theorem kw_3_94 : Cond.selects RX3 yX3_put yX3_put ∈ gw := gw_t3 (List.mem_of_getElem? (i := 94) (by decide +kernel)) (by decide +kernel)
theorem kw_3_95 : Cond.code yX3_put cX3_put 4 none ∈ gw := gw_t3 (List.mem_of_getElem? (i := 95) (by decide +kernel)) (by decide +kernel)
theorem gk_X4_133 : GoodIn gw (wsV RX4 133 RX3 yX3_put (.code yX3_put cX3_put 4 none :: gw)) ∧ (yX3_put.cls = RX3 ∧ yX3_put.cls ≠ "java/lang/invoke/MethodHandle" ∧ yX3_put.cls ≠ "java/lang/invoke/VarHandle" ∧ (parseMethodDescriptor yX3_put.desc).map (fun d => d.parameters.length) = some 3) := ⟨gi_V kw_3_219 kw_3_93 kw_3_94 kw_1_6 kw_3_95, by decide +kernel⟩
theorem dX4_setNext_159 : decode cX4_setNext 159 = .ok (.invokevirtual 133, 3) := by decide +kernel
theorem dX4_setNext_162 : decode cX4_setNext 162 = .ok (.iconst 1, 1) := by decide +kernel
theorem dX4_setNext_163 : decode cX4_setNext 163 = .ok (.ireturn, 1) := by decide +kernel
theorem dX4_setNext_170 : decode cX4_setNext 170 = .ok (.iconst 0, 1) := by decide +kernel
theorem dX4_setNext_171 : decode cX4_setNext 171 = .ok (.ireturn, 1) := by decide +kernel
theorem dX4_takeBack_0 : decode cX4_takeBack 0 = .ok (.aload_n 1, 1) := by decide +kernel
theorem dX4_takeBack_1 : decode cX4_takeBack 1 = .ok (.aload_n 0, 1) := by decide +kernel
theorem dX4_takeBack_2 : decode cX4_takeBack 2 = .ok (.getfield 9, 3) := by decide +kernel
theorem dX4_takeBack_5 : decode cX4_takeBack 5 = .ok (.iload_n 2, 1) := by decide +kernel
theorem dX4_takeBack_6 : decode cX4_takeBack 6 = .ok (.iaload, 1) := by decide +kernel
theorem dX4_takeBack_7 : decode cX4_takeBack 7 = .ok (.invokevirtual 119, 3) := by decide +kernel
theorem dX4_takeBack_10 : decode cX4_takeBack 10 = .ok (.astore_n 3, 1) := by decide +kernel
theorem dX4_takeBack_11 : decode cX4_takeBack 11 = .ok (.aload_n 3, 1) := by decide +kernel
theorem dX4_takeBack_12 : decode cX4_takeBack 12 = .ok (.ifnull 9, 3) := by decide +kernel
theorem dX4_takeBack_21 : decode cX4_takeBack 21 = .ok (.return_, 1) := by decide +kernel
theorem dX4_takeBack_15 : decode cX4_takeBack 15 = .ok (.aload_n 1, 1) := by decide +kernel
theorem dX4_takeBack_16 : decode cX4_takeBack 16 = .ok (.aload_n 3, 1) := by decide +kernel
theorem dX4_takeBack_17 : decode cX4_takeBack 17 = .ok (.iconst 0, 1) := by decide +kernel
theorem kw_3_224 : Cond.methodLink RX4 137 yX3_lift ∈ gw := gw_t3 (List.mem_of_getElem? (i := 224) (by decide +kernel)) (by decide +kernel)
theorem gk_X4_137 : GoodIn gw (wsV RX4 137 RX3 yX3_lift (.code yX3_lift cX3_lift 3 none :: gw)) ∧ (yX3_lift.cls = RX3 ∧ yX3_lift.cls ≠ "java/lang/invoke/MethodHandle" ∧ yX3_lift.cls ≠ "java/lang/invoke/VarHandle" ∧ (parseMethodDescriptor yX3_lift.desc).map (fun d => d.parameters.length) = some 2) := ⟨gi_V kw_3_224 kw_3_119 kw_3_120 kw_1_6 kw_3_121, by decide +kernel⟩
theorem dX4_takeBack_18 : decode cX4_takeBack 18 = .ok (.invokevirtual 137, 3) := by decide +kernel
theorem dX4_takeBackAll_2 : decode cX4_takeBackAll 2 = .ok (.iload_n 2, 1) := by decide +kernel
theorem dX4_takeBackAll_3 : decode cX4_takeBackAll 3 = .ok (.aload_n 0, 1) := by decide +kernel
theorem dX4_takeBackAll_4 : decode cX4_takeBackAll 4 = .ok (.getfield 75, 3) := by decide +kernel
theorem dX4_takeBackAll_7 : decode cX4_takeBackAll 7 = .ok (.if_icmp .ge 21, 3) := by decide +kernel
theorem dX4_takeBackAll_10 : decode cX4_takeBackAll 10 = .ok (.iload_n 2, 1) := by decide +kernel
theorem dX4_takeBackAll_11 : decode cX4_takeBackAll 11 = .ok (.bipush 10, 2) := by decide +kernel
theorem dX4_takeBackAll_13 : decode cX4_takeBackAll 13 = .ok (.if_icmp .ge 15, 3) := by decide +kernel
theorem dX4_takeBackAll_16 : decode cX4_takeBackAll 16 = .ok (.aload_n 0, 1) := by decide +kernel
theorem dX4_takeBackAll_17 : decode cX4_takeBackAll 17 = .ok (.aload_n 1, 1) := by decide +kernel
theorem dX4_takeBackAll_18 : decode cX4_takeBackAll 18 = .ok (.iload_n 2, 1) := by decide +kernel
theorem kw_3_220 : Cond.methodLink RX4 115 yX4_takeBack ∈ gw := gw_t3 (List.mem_of_getElem? (i := 220) (by decide +kernel)) (by decide +kernel)
theorem kw_3_222 : Cond.instanceMethod yX4_takeBack ∈ gw := gw_t3 (List.mem_of_getElem? (i := 222) (by decide +kernel)) (by decide +kernel)
theorem ks_2_3 : Cond.selects RX4 yX4_takeBack yX4_takeBack ∈ gw := gw_s (y := yX4_takeBack) (n := 9) (List.mem_append_right _ (List.mem_append_left _ (List.mem_of_getElem? (i := 3) (by decide +kernel))))
theorem kw_3_223 : Cond.code yX4_takeBack cX4_takeBack 4 none ∈ gw := gw_t3 (List.mem_of_getElem? (i := 223) (by decide +kernel)) (by decide +kernel)
theorem gk_X4_115 : GoodIn gw (wsV RX4 115 RX4 yX4_takeBack (.code yX4_takeBack cX4_takeBack 4 none :: gw)) ∧ (yX4_takeBack.cls = RX4 ∧ yX4_takeBack.cls ≠ "java/lang/invoke/MethodHandle" ∧ yX4_takeBack.cls ≠ "java/lang/invoke/VarHandle" ∧ (parseMethodDescriptor yX4_takeBack.desc).map (fun d => d.parameters.length) = some 2) := ⟨gi_V kw_3_220 kw_3_222 ks_2_3 kw_1_9 kw_3_223, by decide +kernel⟩
theorem dX4_takeBackAll_19 : decode cX4_takeBackAll 19 = .ok (.invokevirtual 115, 3) := by decide +kernel
theorem dX4_takeBackAll_22 : decode cX4_takeBackAll 22 = .ok (.iinc 2 1, 3) := by decide +kernel
theorem dX4_takeBackAll_25 : decode cX4_takeBackAll 25 = .ok (.goto (-23), 3) := by decide +kernel
theorem dX4_takeBackAll_0 : decode cX4_takeBackAll 0 = .ok (.iconst 0, 1) := by decide +kernel
theorem dX4_takeBackAll_1 : decode cX4_takeBackAll 1 = .ok (.istore_n 2, 1) := by decide +kernel
theorem dX4_takeBackAll_28 : decode cX4_takeBackAll 28 = .ok (.return_, 1) := by decide +kernel
theorem dX4_takeFees_2 : decode cX4_takeFees 2 = .ok (.iload_n 2, 1) := by decide +kernel
theorem dX4_takeFees_3 : decode cX4_takeFees 3 = .ok (.aload_n 0, 1) := by decide +kernel
theorem dX4_takeFees_4 : decode cX4_takeFees 4 = .ok (.getfield 75, 3) := by decide +kernel
theorem dX4_takeFees_7 : decode cX4_takeFees 7 = .ok (.if_icmp .ge 36, 3) := by decide +kernel
theorem dX4_takeFees_10 : decode cX4_takeFees 10 = .ok (.iload_n 2, 1) := by decide +kernel
theorem dX4_takeFees_11 : decode cX4_takeFees 11 = .ok (.bipush 10, 2) := by decide +kernel
theorem dX4_takeFees_13 : decode cX4_takeFees 13 = .ok (.if_icmp .ge 30, 3) := by decide +kernel
theorem dX4_takeFees_16 : decode cX4_takeFees 16 = .ok (.aload_n 1, 1) := by decide +kernel
theorem dX4_takeFees_17 : decode cX4_takeFees 17 = .ok (.aload_n 0, 1) := by decide +kernel
theorem dX4_takeFees_18 : decode cX4_takeFees 18 = .ok (.getfield 9, 3) := by decide +kernel
theorem dX4_takeFees_21 : decode cX4_takeFees 21 = .ok (.iload_n 2, 1) := by decide +kernel
theorem dX4_takeFees_22 : decode cX4_takeFees 22 = .ok (.iaload, 1) := by decide +kernel
theorem dX4_takeFees_23 : decode cX4_takeFees 23 = .ok (.invokevirtual 119, 3) := by decide +kernel
theorem dX4_takeFees_26 : decode cX4_takeFees 26 = .ok (.astore_n 3, 1) := by decide +kernel
theorem dX4_takeFees_27 : decode cX4_takeFees 27 = .ok (.aload_n 3, 1) := by decide +kernel
theorem dX4_takeFees_28 : decode cX4_takeFees 28 = .ok (.ifnull 9, 3) := by decide +kernel
theorem dX4_takeFees_37 : decode cX4_takeFees 37 = .ok (.iinc 2 1, 3) := by decide +kernel
theorem dX4_takeFees_40 : decode cX4_takeFees 40 = .ok (.goto (-38), 3) := by decide +kernel
theorem dX4_takeFees_31 : decode cX4_takeFees 31 = .ok (.aload_n 1, 1) := by decide +kernel
theorem dX4_takeFees_32 : decode cX4_takeFees 32 = .ok (.aload_n 3, 1) := by decide +kernel
theorem kw_3_233 : Cond.methodLink RX4 141 yX3_takeFee ∈ gw := gw_t3 (List.mem_of_getElem? (i := 233) (by decide +kernel)) (by decide +kernel)
theorem kw_3_103 : Cond.instanceMethod yX3_takeFee ∈ gw := gw_t3 (List.mem_of_getElem? (i := 103) (by decide +kernel)) (by decide +kernel)
theorem kw_3_104 : Cond.selects RX3 yX3_takeFee yX3_takeFee ∈ gw := gw_t3 (List.mem_of_getElem? (i := 104) (by decide +kernel)) (by decide +kernel)
theorem kw_3_105 : Cond.code yX3_takeFee cX3_takeFee 3 (some .int) ∈ gw := gw_t3 (List.mem_of_getElem? (i := 105) (by decide +kernel)) (by decide +kernel)
theorem gk_X4_141 : GoodIn gw (wsV RX4 141 RX3 yX3_takeFee (.code yX3_takeFee cX3_takeFee 3 (some .int) :: gw)) ∧ (yX3_takeFee.cls = RX3 ∧ yX3_takeFee.cls ≠ "java/lang/invoke/MethodHandle" ∧ yX3_takeFee.cls ≠ "java/lang/invoke/VarHandle" ∧ (parseMethodDescriptor yX3_takeFee.desc).map (fun d => d.parameters.length) = some 1) := ⟨gi_V kw_3_233 kw_3_103 kw_3_104 kw_1_6 kw_3_105, by decide +kernel⟩
theorem dX4_takeFees_33 : decode cX4_takeFees 33 = .ok (.invokevirtual 141, 3) := by decide +kernel
theorem dX4_takeFees_36 : decode cX4_takeFees 36 = .ok (.pop, 1) := by decide +kernel
theorem dX4_takeFees_0 : decode cX4_takeFees 0 = .ok (.iconst 0, 1) := by decide +kernel
theorem dX4_takeFees_1 : decode cX4_takeFees 1 = .ok (.istore_n 2, 1) := by decide +kernel
theorem dX4_takeFees_43 : decode cX4_takeFees 43 = .ok (.return_, 1) := by decide +kernel
theorem dX4_findRow_11 : decode cX4_findRow 11 = .ok (.iload_n 3, 1) := by decide +kernel
theorem kw_3_211 : Cond.constant RX4 110 40100 ∈ gw := gw_t3 (List.mem_of_getElem? (i := 211) (by decide +kernel)) (by decide +kernel)
theorem dX4_findRow_12 : decode cX4_findRow 12 = .ok (.ldc 110, 2) := by decide +kernel
theorem dX4_findRow_14 : decode cX4_findRow 14 = .ok (.if_icmp .ge 76, 3) := by decide +kernel
theorem dX4_findRow_17 : decode cX4_findRow 17 = .ok (.iload_n 2, 1) := by decide +kernel
theorem dX4_findRow_18 : decode cX4_findRow 18 = .ok (.aload_n 0, 1) := by decide +kernel
theorem dX4_findRow_19 : decode cX4_findRow 19 = .ok (.getfield 75, 3) := by decide +kernel
theorem dX4_findRow_22 : decode cX4_findRow 22 = .ok (.if_icmp .ge 68, 3) := by decide +kernel
theorem dX4_findRow_25 : decode cX4_findRow 25 = .ok (.iload_n 2, 1) := by decide +kernel
theorem dX4_findRow_26 : decode cX4_findRow 26 = .ok (.bipush 10, 2) := by decide +kernel
theorem dX4_findRow_28 : decode cX4_findRow 28 = .ok (.if_icmp .ge 62, 3) := by decide +kernel
theorem dX4_findRow_31 : decode cX4_findRow 31 = .ok (.aload_n 0, 1) := by decide +kernel
theorem dX4_findRow_32 : decode cX4_findRow 32 = .ok (.aload_n 1, 1) := by decide +kernel
theorem dX4_findRow_33 : decode cX4_findRow 33 = .ok (.iload_n 2, 1) := by decide +kernel
theorem kw_3_212 : Cond.methodLink RX4 111 yX4_setNext ∈ gw := gw_t3 (List.mem_of_getElem? (i := 212) (by decide +kernel)) (by decide +kernel)
theorem kw_3_214 : Cond.instanceMethod yX4_setNext ∈ gw := gw_t3 (List.mem_of_getElem? (i := 214) (by decide +kernel)) (by decide +kernel)
theorem ks_2_2 : Cond.selects RX4 yX4_setNext yX4_setNext ∈ gw := gw_s (y := yX4_setNext) (n := 9) (List.mem_append_right _ (List.mem_append_left _ (List.mem_of_getElem? (i := 2) (by decide +kernel))))
theorem kw_3_215 : Cond.code yX4_setNext cX4_setNext 5 (some .boolean) ∈ gw := gw_t3 (List.mem_of_getElem? (i := 215) (by decide +kernel)) (by decide +kernel)
theorem gk_X4_111 : GoodIn gw (wsV RX4 111 RX4 yX4_setNext (.code yX4_setNext cX4_setNext 5 (some .boolean) :: gw)) ∧ (yX4_setNext.cls = RX4 ∧ yX4_setNext.cls ≠ "java/lang/invoke/MethodHandle" ∧ yX4_setNext.cls ≠ "java/lang/invoke/VarHandle" ∧ (parseMethodDescriptor yX4_setNext.desc).map (fun d => d.parameters.length) = some 2) := ⟨gi_V kw_3_212 kw_3_214 ks_2_2 kw_1_9 kw_3_215, by decide +kernel⟩
theorem dX4_findRow_34 : decode cX4_findRow 34 = .ok (.invokevirtual 111, 3) := by decide +kernel
theorem dX4_findRow_37 : decode cX4_findRow 37 = .ok (.ifCond .eq 22, 3) := by decide +kernel
theorem dX4_findRow_59 : decode cX4_findRow 59 = .ok (.iinc 2 (-1), 3) := by decide +kernel
theorem dX4_findRow_62 : decode cX4_findRow 62 = .ok (.iload_n 2, 1) := by decide +kernel
theorem dX4_findRow_63 : decode cX4_findRow 63 = .ok (.ifCond .lt 13, 3) := by decide +kernel
theorem dX4_findRow_66 : decode cX4_findRow 66 = .ok (.aload_n 0, 1) := by decide +kernel
theorem dX4_findRow_67 : decode cX4_findRow 67 = .ok (.getfield 28, 3) := by decide +kernel
theorem dX4_findRow_70 : decode cX4_findRow 70 = .ok (.sipush 20000, 3) := by decide +kernel
theorem dX4_findRow_73 : decode cX4_findRow 73 = .ok (.if_icmp .le 5, 3) := by decide +kernel
theorem dX4_findRow_78 : decode cX4_findRow 78 = .ok (.aload_n 0, 1) := by decide +kernel
theorem dX4_findRow_79 : decode cX4_findRow 79 = .ok (.aload_n 1, 1) := by decide +kernel
theorem dX4_findRow_80 : decode cX4_findRow 80 = .ok (.iload_n 2, 1) := by decide +kernel
theorem dX4_findRow_81 : decode cX4_findRow 81 = .ok (.invokevirtual 115, 3) := by decide +kernel
theorem dX4_findRow_84 : decode cX4_findRow 84 = .ok (.iinc 3 1, 3) := by decide +kernel
theorem dX4_findRow_87 : decode cX4_findRow 87 = .ok (.goto (-76), 3) := by decide +kernel
theorem dX4_findRow_40 : decode cX4_findRow 40 = .ok (.iinc 2 1, 3) := by decide +kernel
theorem dX4_findRow_43 : decode cX4_findRow 43 = .ok (.iload_n 2, 1) := by decide +kernel
theorem dX4_findRow_44 : decode cX4_findRow 44 = .ok (.bipush 10, 2) := by decide +kernel
theorem dX4_findRow_46 : decode cX4_findRow 46 = .ok (.if_icmp .ge 38, 3) := by decide +kernel
theorem dX4_findRow_49 : decode cX4_findRow 49 = .ok (.aload_n 0, 1) := by decide +kernel
theorem dX4_findRow_50 : decode cX4_findRow 50 = .ok (.getfield 25, 3) := by decide +kernel
theorem dX4_findRow_53 : decode cX4_findRow 53 = .ok (.iload_n 2, 1) := by decide +kernel
theorem dX4_findRow_54 : decode cX4_findRow 54 = .ok (.iconst (-1), 1) := by decide +kernel
theorem dX4_findRow_55 : decode cX4_findRow 55 = .ok (.iastore, 1) := by decide +kernel
theorem dX4_findRow_56 : decode cX4_findRow 56 = .ok (.goto 28, 3) := by decide +kernel
theorem dX4_findRow_0 : decode cX4_findRow 0 = .ok (.iconst 0, 1) := by decide +kernel
theorem dX4_findRow_1 : decode cX4_findRow 1 = .ok (.istore_n 2, 1) := by decide +kernel
theorem dX4_findRow_2 : decode cX4_findRow 2 = .ok (.aload_n 0, 1) := by decide +kernel
theorem dX4_findRow_3 : decode cX4_findRow 3 = .ok (.getfield 25, 3) := by decide +kernel
theorem dX4_findRow_6 : decode cX4_findRow 6 = .ok (.iconst 0, 1) := by decide +kernel
theorem dX4_findRow_7 : decode cX4_findRow 7 = .ok (.iconst (-1), 1) := by decide +kernel
theorem dX4_findRow_8 : decode cX4_findRow 8 = .ok (.iastore, 1) := by decide +kernel
theorem dX4_findRow_9 : decode cX4_findRow 9 = .ok (.iconst 0, 1) := by decide +kernel
theorem dX4_findRow_10 : decode cX4_findRow 10 = .ok (.istore_n 3, 1) := by decide +kernel
theorem dX4_findRow_76 : decode cX4_findRow 76 = .ok (.iconst 0, 1) := by decide +kernel
theorem dX4_findRow_77 : decode cX4_findRow 77 = .ok (.ireturn, 1) := by decide +kernel
theorem dX4_findRow_90 : decode cX4_findRow 90 = .ok (.iload_n 2, 1) := by decide +kernel
theorem dX4_findRow_91 : decode cX4_findRow 91 = .ok (.aload_n 0, 1) := by decide +kernel
theorem dX4_findRow_92 : decode cX4_findRow 92 = .ok (.getfield 75, 3) := by decide +kernel
theorem dX4_findRow_95 : decode cX4_findRow 95 = .ok (.if_icmp .lt 7, 3) := by decide +kernel
theorem dX4_findRow_103 : decode cX4_findRow 103 = .ok (.ireturn, 1) := by decide +kernel
theorem dX4_findRow_98 : decode cX4_findRow 98 = .ok (.iconst 1, 1) := by decide +kernel
theorem dX4_findRow_99 : decode cX4_findRow 99 = .ok (.goto 4, 3) := by decide +kernel
theorem dX4_layAll_0 : decode cX4_layAll 0 = .ok (.aload_n 0, 1) := by decide +kernel
theorem dX4_layAll_1 : decode cX4_layAll 1 = .ok (.iconst 0, 1) := by decide +kernel
theorem dX4_layAll_2 : decode cX4_layAll 2 = .ok (.putfield 28, 3) := by decide +kernel
theorem dX4_layAll_5 : decode cX4_layAll 5 = .ok (.aload_n 0, 1) := by decide +kernel
theorem dX4_layAll_6 : decode cX4_layAll 6 = .ok (.aload_n 1, 1) := by decide +kernel
theorem kw_3_194 : Cond.methodLink RX4 32 yX4_gatherWaiting ∈ gw := gw_t3 (List.mem_of_getElem? (i := 194) (by decide +kernel)) (by decide +kernel)
theorem kw_3_196 : Cond.instanceMethod yX4_gatherWaiting ∈ gw := gw_t3 (List.mem_of_getElem? (i := 196) (by decide +kernel)) (by decide +kernel)
theorem ks_1_15 : Cond.selects RX4 yX4_gatherWaiting yX4_gatherWaiting ∈ gw := gw_s (y := yX4_gatherWaiting) (n := 9) (List.mem_append_left _ (List.mem_of_getElem? (i := 15) (by decide +kernel)))
theorem kw_3_197 : Cond.code yX4_gatherWaiting cX4_gatherWaiting 3 none ∈ gw := gw_t3 (List.mem_of_getElem? (i := 197) (by decide +kernel)) (by decide +kernel)
theorem gk_X4_32 : GoodIn gw (wsV RX4 32 RX4 yX4_gatherWaiting (.code yX4_gatherWaiting cX4_gatherWaiting 3 none :: gw)) ∧ (yX4_gatherWaiting.cls = RX4 ∧ yX4_gatherWaiting.cls ≠ "java/lang/invoke/MethodHandle" ∧ yX4_gatherWaiting.cls ≠ "java/lang/invoke/VarHandle" ∧ (parseMethodDescriptor yX4_gatherWaiting.desc).map (fun d => d.parameters.length) = some 1) := ⟨gi_V kw_3_194 kw_3_196 ks_1_15 kw_1_9 kw_3_197, by decide +kernel⟩
theorem dX4_layAll_7 : decode cX4_layAll 7 = .ok (.invokevirtual 32, 3) := by decide +kernel
theorem dX4_layAll_10 : decode cX4_layAll 10 = .ok (.aload_n 0, 1) := by decide +kernel
theorem dX4_layAll_11 : decode cX4_layAll 11 = .ok (.aload_n 1, 1) := by decide +kernel
theorem kw_3_198 : Cond.methodLink RX4 36 yX4_gatherOpen ∈ gw := gw_t3 (List.mem_of_getElem? (i := 198) (by decide +kernel)) (by decide +kernel)
theorem kw_3_200 : Cond.instanceMethod yX4_gatherOpen ∈ gw := gw_t3 (List.mem_of_getElem? (i := 200) (by decide +kernel)) (by decide +kernel)
theorem ks_2_0 : Cond.selects RX4 yX4_gatherOpen yX4_gatherOpen ∈ gw := gw_s (y := yX4_gatherOpen) (n := 9) (List.mem_append_right _ (List.mem_append_left _ (List.mem_of_getElem? (i := 0) (by decide +kernel))))
theorem kw_3_201 : Cond.code yX4_gatherOpen cX4_gatherOpen 4 none ∈ gw := gw_t3 (List.mem_of_getElem? (i := 201) (by decide +kernel)) (by decide +kernel)
theorem gk_X4_36 : GoodIn gw (wsV RX4 36 RX4 yX4_gatherOpen (.code yX4_gatherOpen cX4_gatherOpen 4 none :: gw)) ∧ (yX4_gatherOpen.cls = RX4 ∧ yX4_gatherOpen.cls ≠ "java/lang/invoke/MethodHandle" ∧ yX4_gatherOpen.cls ≠ "java/lang/invoke/VarHandle" ∧ (parseMethodDescriptor yX4_gatherOpen.desc).map (fun d => d.parameters.length) = some 1) := ⟨gi_V kw_3_198 kw_3_200 ks_2_0 kw_1_9 kw_3_201, by decide +kernel⟩
theorem dX4_layAll_12 : decode cX4_layAll 12 = .ok (.invokevirtual 36, 3) := by decide +kernel
theorem dX4_layAll_15 : decode cX4_layAll 15 = .ok (.aload_n 0, 1) := by decide +kernel
theorem dX4_layAll_16 : decode cX4_layAll 16 = .ok (.aload_n 1, 1) := by decide +kernel
theorem dX4_layAll_17 : decode cX4_layAll 17 = .ok (.getfield 39, 3) := by decide +kernel
theorem dX4_layAll_20 : decode cX4_layAll 20 = .ok (.aload_n 1, 1) := by decide +kernel
theorem dX4_layAll_21 : decode cX4_layAll 21 = .ok (.getfield 45, 3) := by decide +kernel
theorem kw_3_205 : Cond.methodLink RX4 49 yX1_bear ∈ gw := gw_t3 (List.mem_of_getElem? (i := 205) (by decide +kernel)) (by decide +kernel)
theorem gk_X4_49 : GoodIn gw (wsV RX4 49 RX1 yX1_bear (.code yX1_bear cX1_bear 1 (some .int) :: gw)) ∧ (yX1_bear.cls = RX1 ∧ yX1_bear.cls ≠ "java/lang/invoke/MethodHandle" ∧ yX1_bear.cls ≠ "java/lang/invoke/VarHandle" ∧ (parseMethodDescriptor yX1_bear.desc).map (fun d => d.parameters.length) = some 0) := ⟨gi_V kw_3_205 kw_3_56 kw_3_57 kw_1_4 kw_3_58, by decide +kernel⟩
theorem dX4_layAll_24 : decode cX4_layAll 24 = .ok (.invokevirtual 49, 3) := by decide +kernel
theorem kw_3_206 : Cond.methodLink RX4 55 yX6_bearsAll ∈ gw := gw_t3 (List.mem_of_getElem? (i := 206) (by decide +kernel)) (by decide +kernel)
theorem gk_X4_55 : GoodIn gw (wsV RX4 55 RX6 yX6_bearsAll (.code yX6_bearsAll cX6_bearsAll 5 (some .boolean) :: gw)) ∧ (yX6_bearsAll.cls = RX6 ∧ yX6_bearsAll.cls ≠ "java/lang/invoke/MethodHandle" ∧ yX6_bearsAll.cls ≠ "java/lang/invoke/VarHandle" ∧ (parseMethodDescriptor yX6_bearsAll.desc).map (fun d => d.parameters.length) = some 1) := ⟨gi_V kw_3_206 kw_3_60 kw_3_61 kw_1_7 kw_3_62, by decide +kernel⟩
theorem dX4_layAll_27 : decode cX4_layAll 27 = .ok (.invokevirtual 55, 3) := by decide +kernel
theorem dX4_layAll_30 : decode cX4_layAll 30 = .ok (.putfield 61, 3) := by decide +kernel
theorem dX4_layAll_33 : decode cX4_layAll 33 = .ok (.aload_n 0, 1) := by decide +kernel
theorem dX4_layAll_34 : decode cX4_layAll 34 = .ok (.aload_n 1, 1) := by decide +kernel
theorem kw_3_207 : Cond.methodLink RX4 65 yX4_findRow ∈ gw := gw_t3 (List.mem_of_getElem? (i := 207) (by decide +kernel)) (by decide +kernel)
theorem kw_3_209 : Cond.instanceMethod yX4_findRow ∈ gw := gw_t3 (List.mem_of_getElem? (i := 209) (by decide +kernel)) (by decide +kernel)
theorem ks_2_1 : Cond.selects RX4 yX4_findRow yX4_findRow ∈ gw := gw_s (y := yX4_findRow) (n := 9) (List.mem_append_right _ (List.mem_append_left _ (List.mem_of_getElem? (i := 1) (by decide +kernel))))
theorem kw_3_210 : Cond.code yX4_findRow cX4_findRow 4 (some .boolean) ∈ gw := gw_t3 (List.mem_of_getElem? (i := 210) (by decide +kernel)) (by decide +kernel)
theorem gk_X4_65 : GoodIn gw (wsV RX4 65 RX4 yX4_findRow (.code yX4_findRow cX4_findRow 4 (some .boolean) :: gw)) ∧ (yX4_findRow.cls = RX4 ∧ yX4_findRow.cls ≠ "java/lang/invoke/MethodHandle" ∧ yX4_findRow.cls ≠ "java/lang/invoke/VarHandle" ∧ (parseMethodDescriptor yX4_findRow.desc).map (fun d => d.parameters.length) = some 1) := ⟨gi_V kw_3_207 kw_3_209 ks_2_1 kw_1_9 kw_3_210, by decide +kernel⟩
theorem dX4_layAll_35 : decode cX4_layAll 35 = .ok (.invokevirtual 65, 3) := by decide +kernel
theorem dX4_layAll_38 : decode cX4_layAll 38 = .ok (.ifCond .ne 25, 3) := by decide +kernel
theorem dX4_layAll_63 : decode cX4_layAll 63 = .ok (.aload_n 0, 1) := by decide +kernel
theorem dX4_layAll_64 : decode cX4_layAll 64 = .ok (.aload_n 1, 1) := by decide +kernel
theorem kw_3_229 : Cond.methodLink RX4 72 yX4_takeFees ∈ gw := gw_t3 (List.mem_of_getElem? (i := 229) (by decide +kernel)) (by decide +kernel)
theorem kw_3_231 : Cond.instanceMethod yX4_takeFees ∈ gw := gw_t3 (List.mem_of_getElem? (i := 231) (by decide +kernel)) (by decide +kernel)
theorem ks_2_5 : Cond.selects RX4 yX4_takeFees yX4_takeFees ∈ gw := gw_s (y := yX4_takeFees) (n := 9) (List.mem_append_right _ (List.mem_append_left _ (List.mem_of_getElem? (i := 5) (by decide +kernel))))
theorem kw_3_232 : Cond.code yX4_takeFees cX4_takeFees 4 none ∈ gw := gw_t3 (List.mem_of_getElem? (i := 232) (by decide +kernel)) (by decide +kernel)
theorem gk_X4_72 : GoodIn gw (wsV RX4 72 RX4 yX4_takeFees (.code yX4_takeFees cX4_takeFees 4 none :: gw)) ∧ (yX4_takeFees.cls = RX4 ∧ yX4_takeFees.cls ≠ "java/lang/invoke/MethodHandle" ∧ yX4_takeFees.cls ≠ "java/lang/invoke/VarHandle" ∧ (parseMethodDescriptor yX4_takeFees.desc).map (fun d => d.parameters.length) = some 1) := ⟨gi_V kw_3_229 kw_3_231 ks_2_5 kw_1_9 kw_3_232, by decide +kernel⟩
theorem dX4_layAll_65 : decode cX4_layAll 65 = .ok (.invokevirtual 72, 3) := by decide +kernel
theorem dX4_layAll_68 : decode cX4_layAll 68 = .ok (.aload_n 0, 1) := by decide +kernel
theorem dX4_layAll_69 : decode cX4_layAll 69 = .ok (.getfield 75, 3) := by decide +kernel
theorem dX4_layAll_72 : decode cX4_layAll 72 = .ok (.ireturn, 1) := by decide +kernel
theorem dX4_layAll_41 : decode cX4_layAll 41 = .ok (.aload_n 0, 1) := by decide +kernel
theorem dX4_layAll_42 : decode cX4_layAll 42 = .ok (.aload_n 1, 1) := by decide +kernel
theorem kw_3_225 : Cond.methodLink RX4 69 yX4_takeBackAll ∈ gw := gw_t3 (List.mem_of_getElem? (i := 225) (by decide +kernel)) (by decide +kernel)
theorem kw_3_227 : Cond.instanceMethod yX4_takeBackAll ∈ gw := gw_t3 (List.mem_of_getElem? (i := 227) (by decide +kernel)) (by decide +kernel)
theorem ks_2_4 : Cond.selects RX4 yX4_takeBackAll yX4_takeBackAll ∈ gw := gw_s (y := yX4_takeBackAll) (n := 9) (List.mem_append_right _ (List.mem_append_left _ (List.mem_of_getElem? (i := 4) (by decide +kernel))))
theorem kw_3_228 : Cond.code yX4_takeBackAll cX4_takeBackAll 3 none ∈ gw := gw_t3 (List.mem_of_getElem? (i := 228) (by decide +kernel)) (by decide +kernel)
theorem gk_X4_69 : GoodIn gw (wsV RX4 69 RX4 yX4_takeBackAll (.code yX4_takeBackAll cX4_takeBackAll 3 none :: gw)) ∧ (yX4_takeBackAll.cls = RX4 ∧ yX4_takeBackAll.cls ≠ "java/lang/invoke/MethodHandle" ∧ yX4_takeBackAll.cls ≠ "java/lang/invoke/VarHandle" ∧ (parseMethodDescriptor yX4_takeBackAll.desc).map (fun d => d.parameters.length) = some 1) := ⟨gi_V kw_3_225 kw_3_227 ks_2_4 kw_1_9 kw_3_228, by decide +kernel⟩
theorem dX4_layAll_43 : decode cX4_layAll 43 = .ok (.invokevirtual 69, 3) := by decide +kernel
theorem dX4_layAll_46 : decode cX4_layAll 46 = .ok (.aload_n 0, 1) := by decide +kernel
theorem dX4_layAll_47 : decode cX4_layAll 47 = .ok (.getfield 28, 3) := by decide +kernel
theorem dX4_layAll_50 : decode cX4_layAll 50 = .ok (.sipush 20000, 3) := by decide +kernel
theorem dX4_layAll_53 : decode cX4_layAll 53 = .ok (.if_icmp .le 8, 3) := by decide +kernel
theorem dX4_layAll_61 : decode cX4_layAll 61 = .ok (.iconst (-1), 1) := by decide +kernel
theorem dX4_layAll_62 : decode cX4_layAll 62 = .ok (.ireturn, 1) := by decide +kernel
theorem dX4_layAll_56 : decode cX4_layAll 56 = .ok (.bipush (-2), 2) := by decide +kernel
theorem dX4_layAll_58 : decode cX4_layAll 58 = .ok (.goto 4, 3) := by decide +kernel
theorem kw_2_153 : Cond.fieldLink RJ0 38 "java/lang/String" "COMPACT_STRINGS" "Z" ∈ gw := gw_t2 (List.mem_of_getElem? (i := 153) (by decide +kernel)) (by decide +kernel)
theorem kw_6_39 : Cond.fieldLink RJ0 15 "java/lang/String" "coder" "B" ∈ gw := gw_t6 (List.mem_of_getElem? (i := 39) (by decide +kernel)) (by decide +kernel)
theorem kw_6_38 : Cond.fieldLink RJ0 9 "java/lang/String" "value" "[B" ∈ gw := gw_t6 (List.mem_of_getElem? (i := 38) (by decide +kernel)) (by decide +kernel)
theorem kw_2_149 : Cond.methodLink RJ0 335 yJ0_coder_7d493 ∈ gw := gw_t2 (List.mem_of_getElem? (i := 149) (by decide +kernel)) (by decide +kernel)
theorem kw_2_150 : Cond.instanceMethod yJ0_coder_7d493 ∈ gw := gw_t2 (List.mem_of_getElem? (i := 150) (by decide +kernel)) (by decide +kernel)
theorem kw_2_151 : Cond.selects RJ0 yJ0_coder_7d493 yJ0_coder_7d493 ∈ gw := gw_t2 (List.mem_of_getElem? (i := 151) (by decide +kernel)) (by decide +kernel)
theorem kw_1_15 : Cond.initialized RJ0 ∈ gw := gw_t1 (List.mem_of_getElem? (i := 15) (by decide +kernel)) (by decide +kernel)
theorem kw_2_152 : Cond.code yJ0_coder_7d493 cJ0_coder_7d493 1 (some .byte) ∈ gw := gw_t2 (List.mem_of_getElem? (i := 152) (by decide +kernel)) (by decide +kernel)
theorem gk_J0_335 : GoodIn gw (wsV RJ0 335 RJ0 yJ0_coder_7d493 (.code yJ0_coder_7d493 cJ0_coder_7d493 1 (some .byte) :: gw)) ∧ (yJ0_coder_7d493.cls = RJ0 ∧ yJ0_coder_7d493.cls ≠ "java/lang/invoke/MethodHandle" ∧ yJ0_coder_7d493.cls ≠ "java/lang/invoke/VarHandle" ∧ (parseMethodDescriptor yJ0_coder_7d493.desc).map (fun d => d.parameters.length) = some 0) := ⟨gi_V kw_2_149 kw_2_150 kw_2_151 kw_1_15 kw_2_152, by decide +kernel⟩
theorem kw_2_169 : Cond.fieldLink RJ0 1053 "jdk/internal/util/Preconditions" "SIOOBE_FORMATTER" "Ljava/util/function/BiFunction;" ∈ gw := gw_t2 (List.mem_of_getElem? (i := 169) (by decide +kernel)) (by decide +kernel)
theorem kw_2_171 : Cond.methodLink RJ0 1059 yJ3_checkIndex_8e157 ∈ gw := gw_t2 (List.mem_of_getElem? (i := 171) (by decide +kernel)) (by decide +kernel)
theorem kw_2_172 : Cond.static yJ3_checkIndex_8e157 ∈ gw := gw_t2 (List.mem_of_getElem? (i := 172) (by decide +kernel)) (by decide +kernel)
theorem kw_1_17 : Cond.initialized RJ3 ∈ gw := gw_t1 (List.mem_of_getElem? (i := 17) (by decide +kernel)) (by decide +kernel)
theorem kw_2_173 : Cond.code yJ3_checkIndex_8e157 cJ3_checkIndex_8e157 3 (some .int) ∈ gw := gw_t2 (List.mem_of_getElem? (i := 173) (by decide +kernel)) (by decide +kernel)
theorem gk_J0_1059 : GoodIn gw (va_wsS RJ0 1059 yJ3_checkIndex_8e157 (.code yJ3_checkIndex_8e157 cJ3_checkIndex_8e157 3 (some .int) :: gw)) ∧ (yJ3_checkIndex_8e157.cls ≠ "java/lang/invoke/MethodHandle" ∧ yJ3_checkIndex_8e157.cls ≠ "java/lang/invoke/VarHandle" ∧ (parseMethodDescriptor yJ3_checkIndex_8e157.desc).map (fun d => d.parameters.length) = some 3) := ⟨gi_Z kw_2_171 kw_2_172 kw_1_17 kw_2_173, by decide +kernel⟩
theorem kw_2_166 : Cond.methodLink RJ1 9 yJ0_checkIndex_df160 ∈ gw := gw_t2 (List.mem_of_getElem? (i := 166) (by decide +kernel)) (by decide +kernel)
theorem kw_2_167 : Cond.static yJ0_checkIndex_df160 ∈ gw := gw_t2 (List.mem_of_getElem? (i := 167) (by decide +kernel)) (by decide +kernel)
theorem kw_2_168 : Cond.code yJ0_checkIndex_df160 cJ0_checkIndex_df160 2 none ∈ gw := gw_t2 (List.mem_of_getElem? (i := 168) (by decide +kernel)) (by decide +kernel)
theorem gk_J1_9 : GoodIn gw (va_wsS RJ1 9 yJ0_checkIndex_df160 (.code yJ0_checkIndex_df160 cJ0_checkIndex_df160 2 none :: gw)) ∧ (yJ0_checkIndex_df160.cls ≠ "java/lang/invoke/MethodHandle" ∧ yJ0_checkIndex_df160.cls ≠ "java/lang/invoke/VarHandle" ∧ (parseMethodDescriptor yJ0_checkIndex_df160.desc).map (fun d => d.parameters.length) = some 2) := ⟨gi_Z kw_2_166 kw_2_167 kw_1_15 kw_2_168, by decide +kernel⟩
theorem kw_2_159 : Cond.methodLink RJ0 492 yJ0_isLatin1_aae02 ∈ gw := gw_t2 (List.mem_of_getElem? (i := 159) (by decide +kernel)) (by decide +kernel)
theorem kw_2_160 : Cond.instanceMethod yJ0_isLatin1_aae02 ∈ gw := gw_t2 (List.mem_of_getElem? (i := 160) (by decide +kernel)) (by decide +kernel)
theorem kw_2_161 : Cond.selects RJ0 yJ0_isLatin1_aae02 yJ0_isLatin1_aae02 ∈ gw := gw_t2 (List.mem_of_getElem? (i := 161) (by decide +kernel)) (by decide +kernel)
theorem kw_2_162 : Cond.code yJ0_isLatin1_aae02 cJ0_isLatin1_aae02 1 (some .boolean) ∈ gw := gw_t2 (List.mem_of_getElem? (i := 162) (by decide +kernel)) (by decide +kernel)
theorem gk_J0_492 : GoodIn gw (wsV RJ0 492 RJ0 yJ0_isLatin1_aae02 (.code yJ0_isLatin1_aae02 cJ0_isLatin1_aae02 1 (some .boolean) :: gw)) ∧ (yJ0_isLatin1_aae02.cls = RJ0 ∧ yJ0_isLatin1_aae02.cls ≠ "java/lang/invoke/MethodHandle" ∧ yJ0_isLatin1_aae02.cls ≠ "java/lang/invoke/VarHandle" ∧ (parseMethodDescriptor yJ0_isLatin1_aae02.desc).map (fun d => d.parameters.length) = some 0) := ⟨gi_V kw_2_159 kw_2_160 kw_2_161 kw_1_15 kw_2_162, by decide +kernel⟩
theorem kw_2_163 : Cond.methodLink RJ0 495 yJ1_charAt_3b067 ∈ gw := gw_t2 (List.mem_of_getElem? (i := 163) (by decide +kernel)) (by decide +kernel)
theorem kw_2_164 : Cond.static yJ1_charAt_3b067 ∈ gw := gw_t2 (List.mem_of_getElem? (i := 164) (by decide +kernel)) (by decide +kernel)
theorem kw_1_16 : Cond.initialized RJ1 ∈ gw := gw_t1 (List.mem_of_getElem? (i := 16) (by decide +kernel)) (by decide +kernel)
theorem kw_2_165 : Cond.code yJ1_charAt_3b067 cJ1_charAt_3b067 2 (some .char) ∈ gw := gw_t2 (List.mem_of_getElem? (i := 165) (by decide +kernel)) (by decide +kernel)
theorem gk_J0_495 : GoodIn gw (va_wsS RJ0 495 yJ1_charAt_3b067 (.code yJ1_charAt_3b067 cJ1_charAt_3b067 2 (some .char) :: gw)) ∧ (yJ1_charAt_3b067.cls ≠ "java/lang/invoke/MethodHandle" ∧ yJ1_charAt_3b067.cls ≠ "java/lang/invoke/VarHandle" ∧ (parseMethodDescriptor yJ1_charAt_3b067.desc).map (fun d => d.parameters.length) = some 2) := ⟨gi_Z kw_2_163 kw_2_164 kw_1_16 kw_2_165, by decide +kernel⟩
theorem dX5_allows_0 : decode cX5_allows 0 = .ok (.aload_n 0, 1) := by decide +kernel
theorem kw_2_211 : Cond.fieldLink RX5 22 "IceFair$LineKind" "STAIR" "LIceFair$LineKind;" ∈ gw := gw_t2 (List.mem_of_getElem? (i := 211) (by decide +kernel)) (by decide +kernel)
theorem dX5_allows_1 : decode cX5_allows 1 = .ok (.getstatic 22, 3) := by decide +kernel
theorem dX5_allows_4 : decode cX5_allows 4 = .ok (.if_acmp .ne 12, 3) := by decide +kernel
theorem dX5_allows_16 : decode cX5_allows 16 = .ok (.aload_n 0, 1) := by decide +kernel
theorem kw_6_42 : Cond.fieldLink RX5 55 "IceFair$LineKind" "least" "I" ∈ gw := gw_t6 (List.mem_of_getElem? (i := 42) (by decide +kernel)) (by decide +kernel)
theorem dX5_allows_17 : decode cX5_allows 17 = .ok (.getfield 55, 3) := by decide +kernel
theorem dX5_allows_20 : decode cX5_allows 20 = .ok (.istore_n 3, 1) := by decide +kernel
theorem dX5_allows_21 : decode cX5_allows 21 = .ok (.iload_n 2, 1) := by decide +kernel
theorem dX5_allows_22 : decode cX5_allows 22 = .ok (.iload_n 3, 1) := by decide +kernel
theorem dX5_allows_23 : decode cX5_allows 23 = .ok (.if_icmp .lt 15, 3) := by decide +kernel
theorem dX5_allows_38 : decode cX5_allows 38 = .ok (.iconst 0, 1) := by decide +kernel
theorem dX5_allows_39 : decode cX5_allows 39 = .ok (.ireturn, 1) := by decide +kernel
theorem dX5_allows_26 : decode cX5_allows 26 = .ok (.iload_n 2, 1) := by decide +kernel
theorem dX5_allows_27 : decode cX5_allows 27 = .ok (.aload_n 0, 1) := by decide +kernel
theorem kw_6_43 : Cond.fieldLink RX5 58 "IceFair$LineKind" "most" "I" ∈ gw := gw_t6 (List.mem_of_getElem? (i := 43) (by decide +kernel)) (by decide +kernel)
theorem dX5_allows_28 : decode cX5_allows 28 = .ok (.getfield 58, 3) := by decide +kernel
theorem dX5_allows_31 : decode cX5_allows 31 = .ok (.if_icmp .gt 7, 3) := by decide +kernel
theorem dX5_allows_34 : decode cX5_allows 34 = .ok (.iconst 1, 1) := by decide +kernel
theorem dX5_allows_35 : decode cX5_allows 35 = .ok (.goto 4, 3) := by decide +kernel
theorem dX5_allows_7 : decode cX5_allows 7 = .ok (.iload_n 1, 1) := by decide +kernel
theorem dX5_allows_8 : decode cX5_allows 8 = .ok (.iconst 2, 1) := by decide +kernel
theorem dX5_allows_9 : decode cX5_allows 9 = .ok (.if_icmp .ne 7, 3) := by decide +kernel
theorem dX5_allows_12 : decode cX5_allows 12 = .ok (.iconst 1, 1) := by decide +kernel
theorem dX5_allows_13 : decode cX5_allows 13 = .ok (.goto 7, 3) := by decide +kernel
theorem dX1_isTold_0 : decode cX1_isTold 0 = .ok (.aload_n 0, 1) := by decide +kernel
theorem dX1_isTold_1 : decode cX1_isTold 1 = .ok (.getfield 40, 3) := by decide +kernel
theorem dX1_isTold_4 : decode cX1_isTold 4 = .ok (.iconst 1, 1) := by decide +kernel
theorem dX1_isTold_5 : decode cX1_isTold 5 = .ok (.aload_n 1, 1) := by decide +kernel
theorem kw_6_40 : Cond.fieldLink RX1 43 "IceFair$LineKind" "slot" "I" ∈ gw := gw_t6 (List.mem_of_getElem? (i := 40) (by decide +kernel)) (by decide +kernel)
theorem dX1_isTold_6 : decode cX1_isTold 6 = .ok (.getfield 43, 3) := by decide +kernel
theorem dX1_isTold_9 : decode cX1_isTold 9 = .ok (.ishl, 1) := by decide +kernel
theorem dX1_isTold_10 : decode cX1_isTold 10 = .ok (.iand, 1) := by decide +kernel
theorem dX1_isTold_11 : decode cX1_isTold 11 = .ok (.ifCond .eq 7, 3) := by decide +kernel
theorem dX1_isTold_18 : decode cX1_isTold 18 = .ok (.iconst 0, 1) := by decide +kernel
theorem dX1_isTold_19 : decode cX1_isTold 19 = .ok (.ireturn, 1) := by decide +kernel
theorem dX1_isTold_14 : decode cX1_isTold 14 = .ok (.iconst 1, 1) := by decide +kernel
theorem dX1_isTold_15 : decode cX1_isTold 15 = .ok (.goto 4, 3) := by decide +kernel
theorem dX1_hasStairAt_2 : decode cX1_hasStairAt 2 = .ok (.iload_n 3, 1) := by decide +kernel
theorem dX1_hasStairAt_3 : decode cX1_hasStairAt 3 = .ok (.aload_n 0, 1) := by decide +kernel
theorem dX1_hasStairAt_4 : decode cX1_hasStairAt 4 = .ok (.getfield 36, 3) := by decide +kernel
theorem dX1_hasStairAt_7 : decode cX1_hasStairAt 7 = .ok (.if_icmp .ge 36, 3) := by decide +kernel
theorem dX1_hasStairAt_10 : decode cX1_hasStairAt 10 = .ok (.iload_n 3, 1) := by decide +kernel
theorem dX1_hasStairAt_11 : decode cX1_hasStairAt 11 = .ok (.iconst 4, 1) := by decide +kernel
theorem dX1_hasStairAt_12 : decode cX1_hasStairAt 12 = .ok (.if_icmp .ge 31, 3) := by decide +kernel
theorem dX1_hasStairAt_15 : decode cX1_hasStairAt 15 = .ok (.aload_n 0, 1) := by decide +kernel
theorem dX1_hasStairAt_16 : decode cX1_hasStairAt 16 = .ok (.getfield 18, 3) := by decide +kernel
theorem dX1_hasStairAt_19 : decode cX1_hasStairAt 19 = .ok (.iload_n 3, 1) := by decide +kernel
theorem dX1_hasStairAt_20 : decode cX1_hasStairAt 20 = .ok (.iaload, 1) := by decide +kernel
theorem dX1_hasStairAt_21 : decode cX1_hasStairAt 21 = .ok (.iload_n 1, 1) := by decide +kernel
theorem dX1_hasStairAt_22 : decode cX1_hasStairAt 22 = .ok (.if_icmp .ne 15, 3) := by decide +kernel
theorem dX1_hasStairAt_37 : decode cX1_hasStairAt 37 = .ok (.iinc 3 1, 3) := by decide +kernel
theorem dX1_hasStairAt_40 : decode cX1_hasStairAt 40 = .ok (.goto (-38), 3) := by decide +kernel
theorem dX1_hasStairAt_25 : decode cX1_hasStairAt 25 = .ok (.aload_n 0, 1) := by decide +kernel
theorem dX1_hasStairAt_26 : decode cX1_hasStairAt 26 = .ok (.getfield 21, 3) := by decide +kernel
theorem dX1_hasStairAt_29 : decode cX1_hasStairAt 29 = .ok (.iload_n 3, 1) := by decide +kernel
theorem dX1_hasStairAt_30 : decode cX1_hasStairAt 30 = .ok (.iaload, 1) := by decide +kernel
theorem dX1_hasStairAt_31 : decode cX1_hasStairAt 31 = .ok (.iload_n 2, 1) := by decide +kernel
theorem dX1_hasStairAt_32 : decode cX1_hasStairAt 32 = .ok (.if_icmp .ne 5, 3) := by decide +kernel
theorem dX1_hasStairAt_0 : decode cX1_hasStairAt 0 = .ok (.iconst 0, 1) := by decide +kernel
theorem dX1_hasStairAt_1 : decode cX1_hasStairAt 1 = .ok (.istore_n 3, 1) := by decide +kernel
theorem dX1_hasStairAt_35 : decode cX1_hasStairAt 35 = .ok (.iconst 1, 1) := by decide +kernel
theorem dX1_hasStairAt_36 : decode cX1_hasStairAt 36 = .ok (.ireturn, 1) := by decide +kernel
theorem dX1_hasStairAt_43 : decode cX1_hasStairAt 43 = .ok (.iconst 0, 1) := by decide +kernel
theorem dX1_hasStairAt_44 : decode cX1_hasStairAt 44 = .ok (.ireturn, 1) := by decide +kernel
theorem dX1_addStair_0 : decode cX1_addStair 0 = .ok (.aload_n 0, 1) := by decide +kernel
theorem dX1_addStair_1 : decode cX1_addStair 1 = .ok (.getfield 36, 3) := by decide +kernel
theorem dX1_addStair_4 : decode cX1_addStair 4 = .ok (.ifCond .lt 17, 3) := by decide +kernel
theorem dX1_addStair_7 : decode cX1_addStair 7 = .ok (.aload_n 0, 1) := by decide +kernel
theorem dX1_addStair_8 : decode cX1_addStair 8 = .ok (.getfield 36, 3) := by decide +kernel
theorem dX1_addStair_11 : decode cX1_addStair 11 = .ok (.iconst 4, 1) := by decide +kernel
theorem dX1_addStair_12 : decode cX1_addStair 12 = .ok (.if_icmp .ge 9, 3) := by decide +kernel
theorem dX1_addStair_15 : decode cX1_addStair 15 = .ok (.aload_n 1, 1) := by decide +kernel
theorem dX1_addStair_16 : decode cX1_addStair 16 = .ok (.arraylength, 1) := by decide +kernel
theorem dX1_addStair_17 : decode cX1_addStair 17 = .ok (.iconst 3, 1) := by decide +kernel
theorem dX1_addStair_18 : decode cX1_addStair 18 = .ok (.if_icmp .ge 4, 3) := by decide +kernel
theorem dX1_addStair_22 : decode cX1_addStair 22 = .ok (.aload_n 0, 1) := by decide +kernel
theorem dX1_addStair_23 : decode cX1_addStair 23 = .ok (.getfield 18, 3) := by decide +kernel
theorem dX1_addStair_26 : decode cX1_addStair 26 = .ok (.aload_n 0, 1) := by decide +kernel
theorem dX1_addStair_27 : decode cX1_addStair 27 = .ok (.getfield 36, 3) := by decide +kernel
theorem dX1_addStair_30 : decode cX1_addStair 30 = .ok (.aload_n 1, 1) := by decide +kernel
theorem dX1_addStair_31 : decode cX1_addStair 31 = .ok (.iconst 0, 1) := by decide +kernel
theorem dX1_addStair_32 : decode cX1_addStair 32 = .ok (.iaload, 1) := by decide +kernel
theorem dX1_addStair_33 : decode cX1_addStair 33 = .ok (.iastore, 1) := by decide +kernel
theorem dX1_addStair_34 : decode cX1_addStair 34 = .ok (.aload_n 0, 1) := by decide +kernel
theorem dX1_addStair_35 : decode cX1_addStair 35 = .ok (.getfield 21, 3) := by decide +kernel
theorem dX1_addStair_38 : decode cX1_addStair 38 = .ok (.aload_n 0, 1) := by decide +kernel
theorem dX1_addStair_39 : decode cX1_addStair 39 = .ok (.getfield 36, 3) := by decide +kernel
theorem dX1_addStair_42 : decode cX1_addStair 42 = .ok (.aload_n 1, 1) := by decide +kernel
theorem dX1_addStair_43 : decode cX1_addStair 43 = .ok (.iconst 1, 1) := by decide +kernel
theorem dX1_addStair_44 : decode cX1_addStair 44 = .ok (.iaload, 1) := by decide +kernel
theorem dX1_addStair_45 : decode cX1_addStair 45 = .ok (.iastore, 1) := by decide +kernel
theorem dX1_addStair_46 : decode cX1_addStair 46 = .ok (.aload_n 0, 1) := by decide +kernel
theorem dX1_addStair_47 : decode cX1_addStair 47 = .ok (.getfield 24, 3) := by decide +kernel
theorem dX1_addStair_50 : decode cX1_addStair 50 = .ok (.aload_n 0, 1) := by decide +kernel
theorem dX1_addStair_51 : decode cX1_addStair 51 = .ok (.getfield 36, 3) := by decide +kernel
theorem dX1_addStair_54 : decode cX1_addStair 54 = .ok (.aload_n 1, 1) := by decide +kernel
theorem dX1_addStair_55 : decode cX1_addStair 55 = .ok (.iconst 2, 1) := by decide +kernel
theorem dX1_addStair_56 : decode cX1_addStair 56 = .ok (.iaload, 1) := by decide +kernel
theorem dX1_addStair_57 : decode cX1_addStair 57 = .ok (.iastore, 1) := by decide +kernel
theorem dX1_addStair_58 : decode cX1_addStair 58 = .ok (.aload_n 0, 1) := by decide +kernel
theorem dX1_addStair_59 : decode cX1_addStair 59 = .ok (.dup, 1) := by decide +kernel
theorem dX1_addStair_60 : decode cX1_addStair 60 = .ok (.getfield 36, 3) := by decide +kernel
theorem dX1_addStair_63 : decode cX1_addStair 63 = .ok (.iconst 1, 1) := by decide +kernel
theorem dX1_addStair_64 : decode cX1_addStair 64 = .ok (.iadd, 1) := by decide +kernel
theorem dX1_addStair_65 : decode cX1_addStair 65 = .ok (.putfield 36, 3) := by decide +kernel
theorem dX1_addStair_68 : decode cX1_addStair 68 = .ok (.return_, 1) := by decide +kernel
theorem dX1_tell_30 : decode cX1_tell 30 = .ok (.iload_n 3, 1) := by decide +kernel
theorem dX1_tell_31 : decode cX1_tell 31 = .ok (.aload_n 1, 1) := by decide +kernel
theorem kw_6_44 : Cond.fieldLink RX1 56 "IceFair$LineKind" "numbers" "I" ∈ gw := gw_t6 (List.mem_of_getElem? (i := 44) (by decide +kernel)) (by decide +kernel)
theorem dX1_tell_32 : decode cX1_tell 32 = .ok (.getfield 56, 3) := by decide +kernel
theorem dX1_tell_35 : decode cX1_tell 35 = .ok (.if_icmp .ge 43, 3) := by decide +kernel
theorem dX1_tell_38 : decode cX1_tell 38 = .ok (.iload_n 3, 1) := by decide +kernel
theorem dX1_tell_39 : decode cX1_tell 39 = .ok (.aload_n 2, 1) := by decide +kernel
theorem dX1_tell_40 : decode cX1_tell 40 = .ok (.arraylength, 1) := by decide +kernel
theorem dX1_tell_41 : decode cX1_tell 41 = .ok (.if_icmp .ge 37, 3) := by decide +kernel
theorem dX1_tell_44 : decode cX1_tell 44 = .ok (.aload_n 1, 1) := by decide +kernel
theorem dX1_tell_45 : decode cX1_tell 45 = .ok (.getfield 43, 3) := by decide +kernel
theorem dX1_tell_48 : decode cX1_tell 48 = .ok (.iload_n 3, 1) := by decide +kernel
theorem dX1_tell_49 : decode cX1_tell 49 = .ok (.iadd, 1) := by decide +kernel
theorem dX1_tell_50 : decode cX1_tell 50 = .ok (.aload_n 0, 1) := by decide +kernel
theorem dX1_tell_51 : decode cX1_tell 51 = .ok (.getfield 15, 3) := by decide +kernel
theorem dX1_tell_54 : decode cX1_tell 54 = .ok (.arraylength, 1) := by decide +kernel
theorem dX1_tell_55 : decode cX1_tell 55 = .ok (.if_icmp .ge 23, 3) := by decide +kernel
theorem dX1_tell_58 : decode cX1_tell 58 = .ok (.aload_n 0, 1) := by decide +kernel
theorem dX1_tell_59 : decode cX1_tell 59 = .ok (.getfield 15, 3) := by decide +kernel
theorem dX1_tell_62 : decode cX1_tell 62 = .ok (.aload_n 1, 1) := by decide +kernel
theorem dX1_tell_63 : decode cX1_tell 63 = .ok (.getfield 43, 3) := by decide +kernel
theorem dX1_tell_66 : decode cX1_tell 66 = .ok (.iload_n 3, 1) := by decide +kernel
theorem dX1_tell_67 : decode cX1_tell 67 = .ok (.iadd, 1) := by decide +kernel
theorem dX1_tell_68 : decode cX1_tell 68 = .ok (.aload_n 2, 1) := by decide +kernel
theorem dX1_tell_69 : decode cX1_tell 69 = .ok (.iload_n 3, 1) := by decide +kernel
theorem dX1_tell_70 : decode cX1_tell 70 = .ok (.iaload, 1) := by decide +kernel
theorem dX1_tell_71 : decode cX1_tell 71 = .ok (.iastore, 1) := by decide +kernel
theorem dX1_tell_72 : decode cX1_tell 72 = .ok (.iinc 3 1, 3) := by decide +kernel
theorem dX1_tell_75 : decode cX1_tell 75 = .ok (.goto (-45), 3) := by decide +kernel
theorem dX1_tell_0 : decode cX1_tell 0 = .ok (.aload_n 1, 1) := by decide +kernel
theorem kw_2_220 : Cond.fieldLink RX1 48 "IceFair$LineKind" "STAIR" "LIceFair$LineKind;" ∈ gw := gw_t2 (List.mem_of_getElem? (i := 220) (by decide +kernel)) (by decide +kernel)
theorem dX1_tell_1 : decode cX1_tell 1 = .ok (.getstatic 48, 3) := by decide +kernel
theorem dX1_tell_4 : decode cX1_tell 4 = .ok (.if_acmp .ne 9, 3) := by decide +kernel
theorem dX1_tell_13 : decode cX1_tell 13 = .ok (.aload_n 0, 1) := by decide +kernel
theorem dX1_tell_14 : decode cX1_tell 14 = .ok (.dup, 1) := by decide +kernel
theorem dX1_tell_15 : decode cX1_tell 15 = .ok (.getfield 40, 3) := by decide +kernel
theorem dX1_tell_18 : decode cX1_tell 18 = .ok (.iconst 1, 1) := by decide +kernel
theorem dX1_tell_19 : decode cX1_tell 19 = .ok (.aload_n 1, 1) := by decide +kernel
theorem dX1_tell_20 : decode cX1_tell 20 = .ok (.getfield 43, 3) := by decide +kernel
theorem dX1_tell_23 : decode cX1_tell 23 = .ok (.ishl, 1) := by decide +kernel
theorem dX1_tell_24 : decode cX1_tell 24 = .ok (.ior, 1) := by decide +kernel
theorem dX1_tell_25 : decode cX1_tell 25 = .ok (.putfield 40, 3) := by decide +kernel
theorem dX1_tell_28 : decode cX1_tell 28 = .ok (.iconst 0, 1) := by decide +kernel
theorem dX1_tell_29 : decode cX1_tell 29 = .ok (.istore_n 3, 1) := by decide +kernel
theorem dX1_tell_78 : decode cX1_tell 78 = .ok (.return_, 1) := by decide +kernel
theorem dX1_tell_7 : decode cX1_tell 7 = .ok (.aload_n 0, 1) := by decide +kernel
theorem dX1_tell_8 : decode cX1_tell 8 = .ok (.aload_n 2, 1) := by decide +kernel
theorem kw_2_221 : Cond.methodLink RX1 52 yX1_addStair ∈ gw := gw_t2 (List.mem_of_getElem? (i := 221) (by decide +kernel)) (by decide +kernel)
theorem kw_2_223 : Cond.instanceMethod yX1_addStair ∈ gw := gw_t2 (List.mem_of_getElem? (i := 223) (by decide +kernel)) (by decide +kernel)
theorem ks_1_9 : Cond.selects RX1 yX1_addStair yX1_addStair ∈ gw := gw_s (y := yX1_addStair) (n := 6) (List.mem_append_left _ (List.mem_of_getElem? (i := 9) (by decide +kernel)))
theorem kw_2_224 : Cond.code yX1_addStair cX1_addStair 2 none ∈ gw := gw_t2 (List.mem_of_getElem? (i := 224) (by decide +kernel)) (by decide +kernel)
theorem gk_X1_52 : GoodIn gw (wsV RX1 52 RX1 yX1_addStair (.code yX1_addStair cX1_addStair 2 none :: gw)) ∧ (yX1_addStair.cls = RX1 ∧ yX1_addStair.cls ≠ "java/lang/invoke/MethodHandle" ∧ yX1_addStair.cls ≠ "java/lang/invoke/VarHandle" ∧ (parseMethodDescriptor yX1_addStair.desc).map (fun d => d.parameters.length) = some 1) := ⟨gi_V kw_2_221 kw_2_223 ks_1_9 kw_1_4 kw_2_224, by decide +kernel⟩
theorem dX1_tell_9 : decode cX1_tell 9 = .ok (.invokevirtual 52, 3) := by decide +kernel
theorem dX1_tell_12 : decode cX1_tell 12 = .ok (.return_, 1) := by decide +kernel
theorem dX1_copyFrom_0 : decode cX1_copyFrom 0 = .ok (.aload_n 1, 1) := by decide +kernel
theorem dX1_copyFrom_1 : decode cX1_copyFrom 1 = .ok (.getfield 15, 3) := by decide +kernel
theorem dX1_copyFrom_4 : decode cX1_copyFrom 4 = .ok (.iconst 0, 1) := by decide +kernel
theorem dX1_copyFrom_5 : decode cX1_copyFrom 5 = .ok (.aload_n 0, 1) := by decide +kernel
theorem dX1_copyFrom_6 : decode cX1_copyFrom 6 = .ok (.getfield 15, 3) := by decide +kernel
theorem dX1_copyFrom_9 : decode cX1_copyFrom 9 = .ok (.iconst 0, 1) := by decide +kernel
theorem dX1_copyFrom_10 : decode cX1_copyFrom 10 = .ok (.getstatic 9, 3) := by decide +kernel
theorem dX1_copyFrom_13 : decode cX1_copyFrom 13 = .ok (.arraylength, 1) := by decide +kernel
theorem dX1_copyFrom_14 : decode cX1_copyFrom 14 = .ok (.invokestatic 30, 3) := by decide +kernel
theorem dX1_copyFrom_17 : decode cX1_copyFrom 17 = .ok (.aload_n 1, 1) := by decide +kernel
theorem dX1_copyFrom_18 : decode cX1_copyFrom 18 = .ok (.getfield 18, 3) := by decide +kernel
theorem dX1_copyFrom_21 : decode cX1_copyFrom 21 = .ok (.iconst 0, 1) := by decide +kernel
theorem dX1_copyFrom_22 : decode cX1_copyFrom 22 = .ok (.aload_n 0, 1) := by decide +kernel
theorem dX1_copyFrom_23 : decode cX1_copyFrom 23 = .ok (.getfield 18, 3) := by decide +kernel
theorem dX1_copyFrom_26 : decode cX1_copyFrom 26 = .ok (.iconst 0, 1) := by decide +kernel
theorem dX1_copyFrom_27 : decode cX1_copyFrom 27 = .ok (.iconst 4, 1) := by decide +kernel
theorem dX1_copyFrom_28 : decode cX1_copyFrom 28 = .ok (.invokestatic 30, 3) := by decide +kernel
theorem dX1_copyFrom_31 : decode cX1_copyFrom 31 = .ok (.aload_n 1, 1) := by decide +kernel
theorem dX1_copyFrom_32 : decode cX1_copyFrom 32 = .ok (.getfield 21, 3) := by decide +kernel
theorem dX1_copyFrom_35 : decode cX1_copyFrom 35 = .ok (.iconst 0, 1) := by decide +kernel
theorem dX1_copyFrom_36 : decode cX1_copyFrom 36 = .ok (.aload_n 0, 1) := by decide +kernel
theorem dX1_copyFrom_37 : decode cX1_copyFrom 37 = .ok (.getfield 21, 3) := by decide +kernel
theorem dX1_copyFrom_40 : decode cX1_copyFrom 40 = .ok (.iconst 0, 1) := by decide +kernel
theorem dX1_copyFrom_41 : decode cX1_copyFrom 41 = .ok (.iconst 4, 1) := by decide +kernel
theorem dX1_copyFrom_42 : decode cX1_copyFrom 42 = .ok (.invokestatic 30, 3) := by decide +kernel
theorem dX1_copyFrom_45 : decode cX1_copyFrom 45 = .ok (.aload_n 1, 1) := by decide +kernel
theorem dX1_copyFrom_46 : decode cX1_copyFrom 46 = .ok (.getfield 24, 3) := by decide +kernel
theorem dX1_copyFrom_49 : decode cX1_copyFrom 49 = .ok (.iconst 0, 1) := by decide +kernel
theorem dX1_copyFrom_50 : decode cX1_copyFrom 50 = .ok (.aload_n 0, 1) := by decide +kernel
theorem dX1_copyFrom_51 : decode cX1_copyFrom 51 = .ok (.getfield 24, 3) := by decide +kernel
theorem dX1_copyFrom_54 : decode cX1_copyFrom 54 = .ok (.iconst 0, 1) := by decide +kernel
theorem dX1_copyFrom_55 : decode cX1_copyFrom 55 = .ok (.iconst 4, 1) := by decide +kernel
theorem dX1_copyFrom_56 : decode cX1_copyFrom 56 = .ok (.invokestatic 30, 3) := by decide +kernel
theorem dX1_copyFrom_59 : decode cX1_copyFrom 59 = .ok (.aload_n 0, 1) := by decide +kernel
theorem dX1_copyFrom_60 : decode cX1_copyFrom 60 = .ok (.aload_n 1, 1) := by decide +kernel
theorem dX1_copyFrom_61 : decode cX1_copyFrom 61 = .ok (.getfield 36, 3) := by decide +kernel
theorem dX1_copyFrom_64 : decode cX1_copyFrom 64 = .ok (.putfield 36, 3) := by decide +kernel
theorem dX1_copyFrom_67 : decode cX1_copyFrom 67 = .ok (.aload_n 0, 1) := by decide +kernel
theorem dX1_copyFrom_68 : decode cX1_copyFrom 68 = .ok (.aload_n 1, 1) := by decide +kernel
theorem dX1_copyFrom_69 : decode cX1_copyFrom 69 = .ok (.getfield 40, 3) := by decide +kernel
theorem dX1_copyFrom_72 : decode cX1_copyFrom 72 = .ok (.putfield 40, 3) := by decide +kernel
theorem dX1_copyFrom_75 : decode cX1_copyFrom 75 = .ok (.return_, 1) := by decide +kernel
theorem dX2_signAt_0 : decode cX2_signAt 0 = .ok (.iload_n 1, 1) := by decide +kernel
theorem dX2_signAt_1 : decode cX2_signAt 1 = .ok (.ifCond .lt 29, 3) := by decide +kernel
theorem dX2_signAt_31 : decode cX2_signAt 31 = .ok (.ireturn, 1) := by decide +kernel
theorem dX2_signAt_4 : decode cX2_signAt 4 = .ok (.iload_n 1, 1) := by decide +kernel
theorem dX2_signAt_5 : decode cX2_signAt 5 = .ok (.aload_n 0, 1) := by decide +kernel
theorem kw_1_60 : Cond.fieldLink RX2 25 "IceFair$CustomsReader" "length" "I" ∈ gw := gw_t1 (List.mem_of_getElem? (i := 60) (by decide +kernel)) (by decide +kernel)
theorem dX2_signAt_6 : decode cX2_signAt 6 = .ok (.getfield 25, 3) := by decide +kernel
theorem dX2_signAt_9 : decode cX2_signAt 9 = .ok (.if_icmp .ge 21, 3) := by decide +kernel
theorem dX2_signAt_12 : decode cX2_signAt 12 = .ok (.iload_n 1, 1) := by decide +kernel
theorem dX2_signAt_13 : decode cX2_signAt 13 = .ok (.aload_n 0, 1) := by decide +kernel
theorem dX2_signAt_14 : decode cX2_signAt 14 = .ok (.getfield 22, 3) := by decide +kernel
theorem dX2_signAt_17 : decode cX2_signAt 17 = .ok (.arraylength, 1) := by decide +kernel
theorem dX2_signAt_18 : decode cX2_signAt 18 = .ok (.if_icmp .ge 12, 3) := by decide +kernel
theorem dX2_signAt_21 : decode cX2_signAt 21 = .ok (.aload_n 0, 1) := by decide +kernel
theorem dX2_signAt_22 : decode cX2_signAt 22 = .ok (.getfield 22, 3) := by decide +kernel
theorem dX2_signAt_25 : decode cX2_signAt 25 = .ok (.iload_n 1, 1) := by decide +kernel
theorem dX2_signAt_26 : decode cX2_signAt 26 = .ok (.iaload, 1) := by decide +kernel
theorem dX2_signAt_27 : decode cX2_signAt 27 = .ok (.goto 4, 3) := by decide +kernel
theorem dX2_isBlank_0 : decode cX2_isBlank 0 = .ok (.iload_n 0, 1) := by decide +kernel
theorem dX2_isBlank_1 : decode cX2_isBlank 1 = .ok (.bipush 10, 2) := by decide +kernel
theorem dX2_isBlank_3 : decode cX2_isBlank 3 = .ok (.if_icmp .eq 9, 3) := by decide +kernel
theorem dX2_isBlank_12 : decode cX2_isBlank 12 = .ok (.iconst 1, 1) := by decide +kernel
theorem dX2_isBlank_13 : decode cX2_isBlank 13 = .ok (.goto 4, 3) := by decide +kernel
theorem dX2_isBlank_17 : decode cX2_isBlank 17 = .ok (.ireturn, 1) := by decide +kernel
theorem dX2_isBlank_6 : decode cX2_isBlank 6 = .ok (.iload_n 0, 1) := by decide +kernel
theorem dX2_isBlank_7 : decode cX2_isBlank 7 = .ok (.bipush 32, 2) := by decide +kernel
theorem dX2_isBlank_9 : decode cX2_isBlank 9 = .ok (.if_icmp .ne 7, 3) := by decide +kernel
theorem dX2_isBlank_16 : decode cX2_isBlank 16 = .ok (.iconst 0, 1) := by decide +kernel
theorem dX2_isLetter_0 : decode cX2_isLetter 0 = .ok (.iload_n 0, 1) := by decide +kernel
theorem dX2_isLetter_1 : decode cX2_isLetter 1 = .ok (.bipush 97, 2) := by decide +kernel
theorem dX2_isLetter_3 : decode cX2_isLetter 3 = .ok (.if_icmp .lt 13, 3) := by decide +kernel
theorem dX2_isLetter_16 : decode cX2_isLetter 16 = .ok (.iconst 0, 1) := by decide +kernel
theorem dX2_isLetter_17 : decode cX2_isLetter 17 = .ok (.ireturn, 1) := by decide +kernel
theorem dX2_isLetter_6 : decode cX2_isLetter 6 = .ok (.iload_n 0, 1) := by decide +kernel
theorem dX2_isLetter_7 : decode cX2_isLetter 7 = .ok (.bipush 122, 2) := by decide +kernel
theorem dX2_isLetter_9 : decode cX2_isLetter 9 = .ok (.if_icmp .gt 7, 3) := by decide +kernel
theorem dX2_isLetter_12 : decode cX2_isLetter 12 = .ok (.iconst 1, 1) := by decide +kernel
theorem dX2_isLetter_13 : decode cX2_isLetter 13 = .ok (.goto 4, 3) := by decide +kernel
theorem dX2_isDigit_0 : decode cX2_isDigit 0 = .ok (.iload_n 0, 1) := by decide +kernel
theorem dX2_isDigit_1 : decode cX2_isDigit 1 = .ok (.bipush 48, 2) := by decide +kernel
theorem dX2_isDigit_3 : decode cX2_isDigit 3 = .ok (.if_icmp .lt 13, 3) := by decide +kernel
theorem dX2_isDigit_16 : decode cX2_isDigit 16 = .ok (.iconst 0, 1) := by decide +kernel
theorem dX2_isDigit_17 : decode cX2_isDigit 17 = .ok (.ireturn, 1) := by decide +kernel
theorem dX2_isDigit_6 : decode cX2_isDigit 6 = .ok (.iload_n 0, 1) := by decide +kernel
theorem dX2_isDigit_7 : decode cX2_isDigit 7 = .ok (.bipush 57, 2) := by decide +kernel
theorem dX2_isDigit_9 : decode cX2_isDigit 9 = .ok (.if_icmp .gt 7, 3) := by decide +kernel
theorem dX2_isDigit_12 : decode cX2_isDigit 12 = .ok (.iconst 1, 1) := by decide +kernel
theorem dX2_isDigit_13 : decode cX2_isDigit 13 = .ok (.goto 4, 3) := by decide +kernel
theorem dX2_refuse_0 : decode cX2_refuse 0 = .ok (.aload_n 0, 1) := by decide +kernel
theorem dX2_refuse_1 : decode cX2_refuse 1 = .ok (.iload_n 1, 1) := by decide +kernel
theorem dX2_refuse_2 : decode cX2_refuse 2 = .ok (.putfield 9, 3) := by decide +kernel
theorem dX2_refuse_5 : decode cX2_refuse 5 = .ok (.aload_n 0, 1) := by decide +kernel
theorem dX2_refuse_6 : decode cX2_refuse 6 = .ok (.iload_n 2, 1) := by decide +kernel
theorem dX2_refuse_7 : decode cX2_refuse 7 = .ok (.putfield 15, 3) := by decide +kernel
theorem dX2_refuse_10 : decode cX2_refuse 10 = .ok (.iconst 0, 1) := by decide +kernel
theorem dX2_refuse_11 : decode cX2_refuse 11 = .ok (.ireturn, 1) := by decide +kernel
theorem dX2_takeWord_5 : decode cX2_takeWord 5 = .ok (.aload_n 0, 1) := by decide +kernel
theorem kw_1_61 : Cond.fieldLink RX2 28 "IceFair$CustomsReader" "next" "I" ∈ gw := gw_t1 (List.mem_of_getElem? (i := 61) (by decide +kernel)) (by decide +kernel)
theorem dX2_takeWord_6 : decode cX2_takeWord 6 = .ok (.getfield 28, 3) := by decide +kernel
theorem dX2_takeWord_9 : decode cX2_takeWord 9 = .ok (.aload_n 0, 1) := by decide +kernel
theorem dX2_takeWord_10 : decode cX2_takeWord 10 = .ok (.getfield 25, 3) := by decide +kernel
theorem dX2_takeWord_13 : decode cX2_takeWord 13 = .ok (.if_icmp .ge 30, 3) := by decide +kernel
theorem dX2_takeWord_16 : decode cX2_takeWord 16 = .ok (.aload_n 0, 1) := by decide +kernel
theorem dX2_takeWord_17 : decode cX2_takeWord 17 = .ok (.aload_n 0, 1) := by decide +kernel
theorem dX2_takeWord_18 : decode cX2_takeWord 18 = .ok (.getfield 28, 3) := by decide +kernel
theorem kw_2_107 : Cond.methodLink RX2 107 yX2_signAt ∈ gw := gw_t2 (List.mem_of_getElem? (i := 107) (by decide +kernel)) (by decide +kernel)
theorem kw_2_109 : Cond.instanceMethod yX2_signAt ∈ gw := gw_t2 (List.mem_of_getElem? (i := 109) (by decide +kernel)) (by decide +kernel)
theorem ks_1_1 : Cond.selects RX2 yX2_signAt yX2_signAt ∈ gw := gw_s (y := yX2_signAt) (n := 9) (List.mem_append_left _ (List.mem_of_getElem? (i := 1) (by decide +kernel)))
theorem kw_2_110 : Cond.code yX2_signAt cX2_signAt 2 (some .int) ∈ gw := gw_t2 (List.mem_of_getElem? (i := 110) (by decide +kernel)) (by decide +kernel)
theorem gk_X2_107 : GoodIn gw (wsV RX2 107 RX2 yX2_signAt (.code yX2_signAt cX2_signAt 2 (some .int) :: gw)) ∧ (yX2_signAt.cls = RX2 ∧ yX2_signAt.cls ≠ "java/lang/invoke/MethodHandle" ∧ yX2_signAt.cls ≠ "java/lang/invoke/VarHandle" ∧ (parseMethodDescriptor yX2_signAt.desc).map (fun d => d.parameters.length) = some 1) := ⟨gi_V kw_2_107 kw_2_109 ks_1_1 kw_1_3 kw_2_110, by decide +kernel⟩
theorem dX2_takeWord_21 : decode cX2_takeWord 21 = .ok (.invokevirtual 107, 3) := by decide +kernel
theorem kw_2_114 : Cond.methodLink RX2 119 yX2_isLetter ∈ gw := gw_t2 (List.mem_of_getElem? (i := 114) (by decide +kernel)) (by decide +kernel)
theorem kw_2_115 : Cond.static yX2_isLetter ∈ gw := gw_t2 (List.mem_of_getElem? (i := 115) (by decide +kernel)) (by decide +kernel)
theorem kw_2_116 : Cond.code yX2_isLetter cX2_isLetter 1 (some .boolean) ∈ gw := gw_t2 (List.mem_of_getElem? (i := 116) (by decide +kernel)) (by decide +kernel)
theorem gk_X2_119 : GoodIn gw (wsS RX2 119 yX2_isLetter (.code yX2_isLetter cX2_isLetter 1 (some .boolean) :: gw)) ∧ (yX2_isLetter.cls = RX2 ∧ yX2_isLetter.cls ≠ "java/lang/invoke/MethodHandle" ∧ yX2_isLetter.cls ≠ "java/lang/invoke/VarHandle" ∧ (parseMethodDescriptor yX2_isLetter.desc).map (fun d => d.parameters.length) = some 1) := ⟨gi_S kw_2_114 kw_2_115 kw_1_3 kw_2_116, by decide +kernel⟩
theorem dX2_takeWord_24 : decode cX2_takeWord 24 = .ok (.invokestatic 119, 3) := by decide +kernel
theorem dX2_takeWord_27 : decode cX2_takeWord 27 = .ok (.ifCond .eq 16, 3) := by decide +kernel
theorem dX2_takeWord_30 : decode cX2_takeWord 30 = .ok (.aload_n 0, 1) := by decide +kernel
theorem dX2_takeWord_31 : decode cX2_takeWord 31 = .ok (.dup, 1) := by decide +kernel
theorem dX2_takeWord_32 : decode cX2_takeWord 32 = .ok (.getfield 28, 3) := by decide +kernel
theorem dX2_takeWord_35 : decode cX2_takeWord 35 = .ok (.iconst 1, 1) := by decide +kernel
theorem dX2_takeWord_36 : decode cX2_takeWord 36 = .ok (.iadd, 1) := by decide +kernel
theorem dX2_takeWord_37 : decode cX2_takeWord 37 = .ok (.putfield 28, 3) := by decide +kernel
theorem dX2_takeWord_40 : decode cX2_takeWord 40 = .ok (.goto (-35), 3) := by decide +kernel
theorem dX2_takeWord_0 : decode cX2_takeWord 0 = .ok (.aload_n 0, 1) := by decide +kernel
theorem dX2_takeWord_1 : decode cX2_takeWord 1 = .ok (.iconst 1, 1) := by decide +kernel
theorem kw_1_62 : Cond.fieldLink RX2 39 "IceFair$CustomsReader" "token" "I" ∈ gw := gw_t1 (List.mem_of_getElem? (i := 62) (by decide +kernel)) (by decide +kernel)
theorem dX2_takeWord_2 : decode cX2_takeWord 2 = .ok (.putfield 39, 3) := by decide +kernel
theorem dX2_takeWord_43 : decode cX2_takeWord 43 = .ok (.return_, 1) := by decide +kernel
theorem dX2_takeNumber_10 : decode cX2_takeNumber 10 = .ok (.aload_n 0, 1) := by decide +kernel
theorem dX2_takeNumber_11 : decode cX2_takeNumber 11 = .ok (.getfield 28, 3) := by decide +kernel
theorem dX2_takeNumber_14 : decode cX2_takeNumber 14 = .ok (.aload_n 0, 1) := by decide +kernel
theorem dX2_takeNumber_15 : decode cX2_takeNumber 15 = .ok (.getfield 25, 3) := by decide +kernel
theorem dX2_takeNumber_18 : decode cX2_takeNumber 18 = .ok (.if_icmp .ge 59, 3) := by decide +kernel
theorem dX2_takeNumber_21 : decode cX2_takeNumber 21 = .ok (.aload_n 0, 1) := by decide +kernel
theorem dX2_takeNumber_22 : decode cX2_takeNumber 22 = .ok (.aload_n 0, 1) := by decide +kernel
theorem dX2_takeNumber_23 : decode cX2_takeNumber 23 = .ok (.getfield 28, 3) := by decide +kernel
theorem dX2_takeNumber_26 : decode cX2_takeNumber 26 = .ok (.invokevirtual 107, 3) := by decide +kernel
theorem kw_2_121 : Cond.methodLink RX2 125 yX2_isDigit ∈ gw := gw_t2 (List.mem_of_getElem? (i := 121) (by decide +kernel)) (by decide +kernel)
theorem kw_2_122 : Cond.static yX2_isDigit ∈ gw := gw_t2 (List.mem_of_getElem? (i := 122) (by decide +kernel)) (by decide +kernel)
theorem kw_2_123 : Cond.code yX2_isDigit cX2_isDigit 1 (some .boolean) ∈ gw := gw_t2 (List.mem_of_getElem? (i := 123) (by decide +kernel)) (by decide +kernel)
theorem gk_X2_125 : GoodIn gw (wsS RX2 125 yX2_isDigit (.code yX2_isDigit cX2_isDigit 1 (some .boolean) :: gw)) ∧ (yX2_isDigit.cls = RX2 ∧ yX2_isDigit.cls ≠ "java/lang/invoke/MethodHandle" ∧ yX2_isDigit.cls ≠ "java/lang/invoke/VarHandle" ∧ (parseMethodDescriptor yX2_isDigit.desc).map (fun d => d.parameters.length) = some 1) := ⟨gi_S kw_2_121 kw_2_122 kw_1_3 kw_2_123, by decide +kernel⟩
theorem dX2_takeNumber_29 : decode cX2_takeNumber 29 = .ok (.invokestatic 125, 3) := by decide +kernel
theorem dX2_takeNumber_32 : decode cX2_takeNumber 32 = .ok (.ifCond .eq 45, 3) := by decide +kernel
theorem dX2_takeNumber_35 : decode cX2_takeNumber 35 = .ok (.aload_n 0, 1) := by decide +kernel
theorem dX2_takeNumber_36 : decode cX2_takeNumber 36 = .ok (.sipush 1000, 3) := by decide +kernel
theorem dX2_takeNumber_39 : decode cX2_takeNumber 39 = .ok (.aload_n 0, 1) := by decide +kernel
theorem kw_1_64 : Cond.fieldLink RX2 81 "IceFair$CustomsReader" "value" "I" ∈ gw := gw_t1 (List.mem_of_getElem? (i := 64) (by decide +kernel)) (by decide +kernel)
theorem dX2_takeNumber_40 : decode cX2_takeNumber 40 = .ok (.getfield 81, 3) := by decide +kernel
theorem dX2_takeNumber_43 : decode cX2_takeNumber 43 = .ok (.bipush 10, 2) := by decide +kernel
theorem dX2_takeNumber_45 : decode cX2_takeNumber 45 = .ok (.imul, 1) := by decide +kernel
theorem dX2_takeNumber_46 : decode cX2_takeNumber 46 = .ok (.aload_n 0, 1) := by decide +kernel
theorem dX2_takeNumber_47 : decode cX2_takeNumber 47 = .ok (.aload_n 0, 1) := by decide +kernel
theorem dX2_takeNumber_48 : decode cX2_takeNumber 48 = .ok (.getfield 28, 3) := by decide +kernel
theorem dX2_takeNumber_51 : decode cX2_takeNumber 51 = .ok (.invokevirtual 107, 3) := by decide +kernel
theorem dX2_takeNumber_54 : decode cX2_takeNumber 54 = .ok (.iadd, 1) := by decide +kernel
theorem dX2_takeNumber_55 : decode cX2_takeNumber 55 = .ok (.bipush 48, 2) := by decide +kernel
theorem dX2_takeNumber_57 : decode cX2_takeNumber 57 = .ok (.isub, 1) := by decide +kernel
theorem kw_2_128 : Cond.methodLink RX2 131 Lib.Math.min.name ∈ gw := gw_t2 (List.mem_of_getElem? (i := 128) (by decide +kernel)) (by decide +kernel)
theorem dX2_takeNumber_58 : decode cX2_takeNumber 58 = .ok (.invokestatic 131, 3) := by decide +kernel
theorem dX2_takeNumber_61 : decode cX2_takeNumber 61 = .ok (.putfield 81, 3) := by decide +kernel
theorem dX2_takeNumber_64 : decode cX2_takeNumber 64 = .ok (.aload_n 0, 1) := by decide +kernel
theorem dX2_takeNumber_65 : decode cX2_takeNumber 65 = .ok (.dup, 1) := by decide +kernel
theorem dX2_takeNumber_66 : decode cX2_takeNumber 66 = .ok (.getfield 28, 3) := by decide +kernel
theorem dX2_takeNumber_69 : decode cX2_takeNumber 69 = .ok (.iconst 1, 1) := by decide +kernel
theorem dX2_takeNumber_70 : decode cX2_takeNumber 70 = .ok (.iadd, 1) := by decide +kernel
theorem dX2_takeNumber_71 : decode cX2_takeNumber 71 = .ok (.putfield 28, 3) := by decide +kernel
theorem dX2_takeNumber_74 : decode cX2_takeNumber 74 = .ok (.goto (-64), 3) := by decide +kernel
theorem dX2_takeNumber_0 : decode cX2_takeNumber 0 = .ok (.aload_n 0, 1) := by decide +kernel
theorem dX2_takeNumber_1 : decode cX2_takeNumber 1 = .ok (.iconst 2, 1) := by decide +kernel
theorem dX2_takeNumber_2 : decode cX2_takeNumber 2 = .ok (.putfield 39, 3) := by decide +kernel
theorem dX2_takeNumber_5 : decode cX2_takeNumber 5 = .ok (.aload_n 0, 1) := by decide +kernel
theorem dX2_takeNumber_6 : decode cX2_takeNumber 6 = .ok (.iconst 0, 1) := by decide +kernel
theorem dX2_takeNumber_7 : decode cX2_takeNumber 7 = .ok (.putfield 81, 3) := by decide +kernel
theorem dX2_takeNumber_77 : decode cX2_takeNumber 77 = .ok (.return_, 1) := by decide +kernel
theorem dX2_takeToken_0 : decode cX2_takeToken 0 = .ok (.aload_n 0, 1) := by decide +kernel
theorem dX2_takeToken_1 : decode cX2_takeToken 1 = .ok (.getfield 28, 3) := by decide +kernel
theorem dX2_takeToken_4 : decode cX2_takeToken 4 = .ok (.aload_n 0, 1) := by decide +kernel
theorem dX2_takeToken_5 : decode cX2_takeToken 5 = .ok (.getfield 25, 3) := by decide +kernel
theorem dX2_takeToken_8 : decode cX2_takeToken 8 = .ok (.if_icmp .ge 30, 3) := by decide +kernel
theorem dX2_takeToken_11 : decode cX2_takeToken 11 = .ok (.aload_n 0, 1) := by decide +kernel
theorem dX2_takeToken_12 : decode cX2_takeToken 12 = .ok (.aload_n 0, 1) := by decide +kernel
theorem dX2_takeToken_13 : decode cX2_takeToken 13 = .ok (.getfield 28, 3) := by decide +kernel
theorem dX2_takeToken_16 : decode cX2_takeToken 16 = .ok (.invokevirtual 107, 3) := by decide +kernel
theorem kw_2_111 : Cond.methodLink RX2 115 yX2_isBlank ∈ gw := gw_t2 (List.mem_of_getElem? (i := 111) (by decide +kernel)) (by decide +kernel)
theorem kw_2_112 : Cond.static yX2_isBlank ∈ gw := gw_t2 (List.mem_of_getElem? (i := 112) (by decide +kernel)) (by decide +kernel)
theorem kw_2_113 : Cond.code yX2_isBlank cX2_isBlank 1 (some .boolean) ∈ gw := gw_t2 (List.mem_of_getElem? (i := 113) (by decide +kernel)) (by decide +kernel)
theorem gk_X2_115 : GoodIn gw (wsS RX2 115 yX2_isBlank (.code yX2_isBlank cX2_isBlank 1 (some .boolean) :: gw)) ∧ (yX2_isBlank.cls = RX2 ∧ yX2_isBlank.cls ≠ "java/lang/invoke/MethodHandle" ∧ yX2_isBlank.cls ≠ "java/lang/invoke/VarHandle" ∧ (parseMethodDescriptor yX2_isBlank.desc).map (fun d => d.parameters.length) = some 1) := ⟨gi_S kw_2_111 kw_2_112 kw_1_3 kw_2_113, by decide +kernel⟩
theorem dX2_takeToken_19 : decode cX2_takeToken 19 = .ok (.invokestatic 115, 3) := by decide +kernel
theorem dX2_takeToken_22 : decode cX2_takeToken 22 = .ok (.ifCond .eq 16, 3) := by decide +kernel
theorem dX2_takeToken_25 : decode cX2_takeToken 25 = .ok (.aload_n 0, 1) := by decide +kernel
theorem dX2_takeToken_26 : decode cX2_takeToken 26 = .ok (.dup, 1) := by decide +kernel
theorem dX2_takeToken_27 : decode cX2_takeToken 27 = .ok (.getfield 28, 3) := by decide +kernel
theorem dX2_takeToken_30 : decode cX2_takeToken 30 = .ok (.iconst 1, 1) := by decide +kernel
theorem dX2_takeToken_31 : decode cX2_takeToken 31 = .ok (.iadd, 1) := by decide +kernel
theorem dX2_takeToken_32 : decode cX2_takeToken 32 = .ok (.putfield 28, 3) := by decide +kernel
theorem dX2_takeToken_35 : decode cX2_takeToken 35 = .ok (.goto (-35), 3) := by decide +kernel
theorem dX2_takeToken_38 : decode cX2_takeToken 38 = .ok (.aload_n 0, 1) := by decide +kernel
theorem dX2_takeToken_39 : decode cX2_takeToken 39 = .ok (.aload_n 0, 1) := by decide +kernel
theorem dX2_takeToken_40 : decode cX2_takeToken 40 = .ok (.getfield 28, 3) := by decide +kernel
theorem kw_1_63 : Cond.fieldLink RX2 50 "IceFair$CustomsReader" "start" "I" ∈ gw := gw_t1 (List.mem_of_getElem? (i := 63) (by decide +kernel)) (by decide +kernel)
theorem dX2_takeToken_43 : decode cX2_takeToken 43 = .ok (.putfield 50, 3) := by decide +kernel
theorem dX2_takeToken_46 : decode cX2_takeToken 46 = .ok (.aload_n 0, 1) := by decide +kernel
theorem dX2_takeToken_47 : decode cX2_takeToken 47 = .ok (.getfield 28, 3) := by decide +kernel
theorem dX2_takeToken_50 : decode cX2_takeToken 50 = .ok (.aload_n 0, 1) := by decide +kernel
theorem dX2_takeToken_51 : decode cX2_takeToken 51 = .ok (.getfield 25, 3) := by decide +kernel
theorem dX2_takeToken_54 : decode cX2_takeToken 54 = .ok (.if_icmp .lt 11, 3) := by decide +kernel
theorem dX2_takeToken_65 : decode cX2_takeToken 65 = .ok (.aload_n 0, 1) := by decide +kernel
theorem dX2_takeToken_66 : decode cX2_takeToken 66 = .ok (.aload_n 0, 1) := by decide +kernel
theorem dX2_takeToken_67 : decode cX2_takeToken 67 = .ok (.getfield 28, 3) := by decide +kernel
theorem dX2_takeToken_70 : decode cX2_takeToken 70 = .ok (.invokevirtual 107, 3) := by decide +kernel
theorem dX2_takeToken_73 : decode cX2_takeToken 73 = .ok (.invokestatic 119, 3) := by decide +kernel
theorem dX2_takeToken_76 : decode cX2_takeToken 76 = .ok (.ifCond .eq 10, 3) := by decide +kernel
theorem dX2_takeToken_86 : decode cX2_takeToken 86 = .ok (.aload_n 0, 1) := by decide +kernel
theorem dX2_takeToken_87 : decode cX2_takeToken 87 = .ok (.aload_n 0, 1) := by decide +kernel
theorem dX2_takeToken_88 : decode cX2_takeToken 88 = .ok (.getfield 28, 3) := by decide +kernel
theorem dX2_takeToken_91 : decode cX2_takeToken 91 = .ok (.invokevirtual 107, 3) := by decide +kernel
theorem dX2_takeToken_94 : decode cX2_takeToken 94 = .ok (.invokestatic 125, 3) := by decide +kernel
theorem dX2_takeToken_97 : decode cX2_takeToken 97 = .ok (.ifCond .eq 10, 3) := by decide +kernel
theorem dX2_takeToken_107 : decode cX2_takeToken 107 = .ok (.aload_n 0, 1) := by decide +kernel
theorem dX2_takeToken_108 : decode cX2_takeToken 108 = .ok (.aload_n 0, 1) := by decide +kernel
theorem dX2_takeToken_109 : decode cX2_takeToken 109 = .ok (.aload_n 0, 1) := by decide +kernel
theorem dX2_takeToken_110 : decode cX2_takeToken 110 = .ok (.getfield 28, 3) := by decide +kernel
theorem dX2_takeToken_113 : decode cX2_takeToken 113 = .ok (.invokevirtual 107, 3) := by decide +kernel
theorem dX2_takeToken_116 : decode cX2_takeToken 116 = .ok (.bipush 59, 2) := by decide +kernel
theorem dX2_takeToken_118 : decode cX2_takeToken 118 = .ok (.if_icmp .ne 7, 3) := by decide +kernel
theorem dX2_takeToken_125 : decode cX2_takeToken 125 = .ok (.iconst 4, 1) := by decide +kernel
theorem dX2_takeToken_126 : decode cX2_takeToken 126 = .ok (.putfield 39, 3) := by decide +kernel
theorem dX2_takeToken_129 : decode cX2_takeToken 129 = .ok (.aload_n 0, 1) := by decide +kernel
theorem dX2_takeToken_130 : decode cX2_takeToken 130 = .ok (.dup, 1) := by decide +kernel
theorem dX2_takeToken_131 : decode cX2_takeToken 131 = .ok (.getfield 28, 3) := by decide +kernel
theorem dX2_takeToken_134 : decode cX2_takeToken 134 = .ok (.iconst 1, 1) := by decide +kernel
theorem dX2_takeToken_135 : decode cX2_takeToken 135 = .ok (.iadd, 1) := by decide +kernel
theorem dX2_takeToken_136 : decode cX2_takeToken 136 = .ok (.putfield 28, 3) := by decide +kernel
theorem dX2_takeToken_139 : decode cX2_takeToken 139 = .ok (.return_, 1) := by decide +kernel
theorem dX2_takeToken_121 : decode cX2_takeToken 121 = .ok (.iconst 3, 1) := by decide +kernel
theorem dX2_takeToken_122 : decode cX2_takeToken 122 = .ok (.goto 4, 3) := by decide +kernel
theorem dX2_takeToken_100 : decode cX2_takeToken 100 = .ok (.aload_n 0, 1) := by decide +kernel
theorem kw_2_124 : Cond.methodLink RX2 128 yX2_takeNumber ∈ gw := gw_t2 (List.mem_of_getElem? (i := 124) (by decide +kernel)) (by decide +kernel)
theorem kw_2_126 : Cond.instanceMethod yX2_takeNumber ∈ gw := gw_t2 (List.mem_of_getElem? (i := 126) (by decide +kernel)) (by decide +kernel)
theorem ks_1_3 : Cond.selects RX2 yX2_takeNumber yX2_takeNumber ∈ gw := gw_s (y := yX2_takeNumber) (n := 9) (List.mem_append_left _ (List.mem_of_getElem? (i := 3) (by decide +kernel)))
theorem kw_2_127 : Cond.code yX2_takeNumber cX2_takeNumber 1 none ∈ gw := gw_t2 (List.mem_of_getElem? (i := 127) (by decide +kernel)) (by decide +kernel)
theorem gk_X2_128 : GoodIn gw (wsV RX2 128 RX2 yX2_takeNumber (.code yX2_takeNumber cX2_takeNumber 1 none :: gw)) ∧ (yX2_takeNumber.cls = RX2 ∧ yX2_takeNumber.cls ≠ "java/lang/invoke/MethodHandle" ∧ yX2_takeNumber.cls ≠ "java/lang/invoke/VarHandle" ∧ (parseMethodDescriptor yX2_takeNumber.desc).map (fun d => d.parameters.length) = some 0) := ⟨gi_V kw_2_124 kw_2_126 ks_1_3 kw_1_3 kw_2_127, by decide +kernel⟩
theorem dX2_takeToken_101 : decode cX2_takeToken 101 = .ok (.invokevirtual 128, 3) := by decide +kernel
theorem dX2_takeToken_104 : decode cX2_takeToken 104 = .ok (.goto 35, 3) := by decide +kernel
theorem dX2_takeToken_79 : decode cX2_takeToken 79 = .ok (.aload_n 0, 1) := by decide +kernel
theorem kw_2_117 : Cond.methodLink RX2 122 yX2_takeWord ∈ gw := gw_t2 (List.mem_of_getElem? (i := 117) (by decide +kernel)) (by decide +kernel)
theorem kw_2_119 : Cond.instanceMethod yX2_takeWord ∈ gw := gw_t2 (List.mem_of_getElem? (i := 119) (by decide +kernel)) (by decide +kernel)
theorem ks_1_2 : Cond.selects RX2 yX2_takeWord yX2_takeWord ∈ gw := gw_s (y := yX2_takeWord) (n := 9) (List.mem_append_left _ (List.mem_of_getElem? (i := 2) (by decide +kernel)))
theorem kw_2_120 : Cond.code yX2_takeWord cX2_takeWord 1 none ∈ gw := gw_t2 (List.mem_of_getElem? (i := 120) (by decide +kernel)) (by decide +kernel)
theorem gk_X2_122 : GoodIn gw (wsV RX2 122 RX2 yX2_takeWord (.code yX2_takeWord cX2_takeWord 1 none :: gw)) ∧ (yX2_takeWord.cls = RX2 ∧ yX2_takeWord.cls ≠ "java/lang/invoke/MethodHandle" ∧ yX2_takeWord.cls ≠ "java/lang/invoke/VarHandle" ∧ (parseMethodDescriptor yX2_takeWord.desc).map (fun d => d.parameters.length) = some 0) := ⟨gi_V kw_2_117 kw_2_119 ks_1_2 kw_1_3 kw_2_120, by decide +kernel⟩
theorem dX2_takeToken_80 : decode cX2_takeToken 80 = .ok (.invokevirtual 122, 3) := by decide +kernel
theorem dX2_takeToken_83 : decode cX2_takeToken 83 = .ok (.goto 56, 3) := by decide +kernel
theorem dX2_takeToken_57 : decode cX2_takeToken 57 = .ok (.aload_n 0, 1) := by decide +kernel
theorem dX2_takeToken_58 : decode cX2_takeToken 58 = .ok (.iconst 0, 1) := by decide +kernel
theorem dX2_takeToken_59 : decode cX2_takeToken 59 = .ok (.putfield 39, 3) := by decide +kernel
theorem dX2_takeToken_62 : decode cX2_takeToken 62 = .ok (.goto 77, 3) := by decide +kernel
theorem dX2_isWord_20 : decode cX2_isWord 20 = .ok (.iload_n 2, 1) := by decide +kernel
theorem dX2_isWord_21 : decode cX2_isWord 21 = .ok (.aload_n 1, 1) := by decide +kernel
theorem kw_2_145 : Cond.methodLink RX2 102 yJ0_length_8abf5 ∈ gw := gw_t2 (List.mem_of_getElem? (i := 145) (by decide +kernel)) (by decide +kernel)
theorem kw_2_146 : Cond.instanceMethod yJ0_length_8abf5 ∈ gw := gw_t2 (List.mem_of_getElem? (i := 146) (by decide +kernel)) (by decide +kernel)
theorem kw_2_147 : Cond.selects RJ0 yJ0_length_8abf5 yJ0_length_8abf5 ∈ gw := gw_t2 (List.mem_of_getElem? (i := 147) (by decide +kernel)) (by decide +kernel)
theorem kw_2_148 : Cond.code yJ0_length_8abf5 cJ0_length_8abf5 1 (some .int) ∈ gw := gw_t2 (List.mem_of_getElem? (i := 148) (by decide +kernel)) (by decide +kernel)
theorem gk_X2_102 : GoodIn gw (wsV RX2 102 RJ0 yJ0_length_8abf5 (.code yJ0_length_8abf5 cJ0_length_8abf5 1 (some .int) :: gw)) ∧ (yJ0_length_8abf5.cls = RJ0 ∧ yJ0_length_8abf5.cls ≠ "java/lang/invoke/MethodHandle" ∧ yJ0_length_8abf5.cls ≠ "java/lang/invoke/VarHandle" ∧ (parseMethodDescriptor yJ0_length_8abf5.desc).map (fun d => d.parameters.length) = some 0) := ⟨gi_V kw_2_145 kw_2_146 kw_2_147 kw_1_15 kw_2_148, by decide +kernel⟩
theorem dX2_isWord_22 : decode cX2_isWord 22 = .ok (.invokevirtual 102, 3) := by decide +kernel
theorem dX2_isWord_25 : decode cX2_isWord 25 = .ok (.if_icmp .ge 29, 3) := by decide +kernel
theorem dX2_isWord_28 : decode cX2_isWord 28 = .ok (.aload_n 0, 1) := by decide +kernel
theorem dX2_isWord_29 : decode cX2_isWord 29 = .ok (.aload_n 0, 1) := by decide +kernel
theorem dX2_isWord_30 : decode cX2_isWord 30 = .ok (.getfield 50, 3) := by decide +kernel
theorem dX2_isWord_33 : decode cX2_isWord 33 = .ok (.iload_n 2, 1) := by decide +kernel
theorem dX2_isWord_34 : decode cX2_isWord 34 = .ok (.iadd, 1) := by decide +kernel
theorem dX2_isWord_35 : decode cX2_isWord 35 = .ok (.invokevirtual 107, 3) := by decide +kernel
theorem dX2_isWord_38 : decode cX2_isWord 38 = .ok (.aload_n 1, 1) := by decide +kernel
theorem dX2_isWord_39 : decode cX2_isWord 39 = .ok (.iload_n 2, 1) := by decide +kernel
theorem kw_2_155 : Cond.methodLink RX2 111 yJ0_charAt_5068e ∈ gw := gw_t2 (List.mem_of_getElem? (i := 155) (by decide +kernel)) (by decide +kernel)
theorem kw_2_156 : Cond.instanceMethod yJ0_charAt_5068e ∈ gw := gw_t2 (List.mem_of_getElem? (i := 156) (by decide +kernel)) (by decide +kernel)
theorem kw_2_157 : Cond.selects RJ0 yJ0_charAt_5068e yJ0_charAt_5068e ∈ gw := gw_t2 (List.mem_of_getElem? (i := 157) (by decide +kernel)) (by decide +kernel)
theorem kw_2_158 : Cond.code yJ0_charAt_5068e cJ0_charAt_5068e 2 (some .char) ∈ gw := gw_t2 (List.mem_of_getElem? (i := 158) (by decide +kernel)) (by decide +kernel)
theorem gk_X2_111 : GoodIn gw (wsV RX2 111 RJ0 yJ0_charAt_5068e (.code yJ0_charAt_5068e cJ0_charAt_5068e 2 (some .char) :: gw)) ∧ (yJ0_charAt_5068e.cls = RJ0 ∧ yJ0_charAt_5068e.cls ≠ "java/lang/invoke/MethodHandle" ∧ yJ0_charAt_5068e.cls ≠ "java/lang/invoke/VarHandle" ∧ (parseMethodDescriptor yJ0_charAt_5068e.desc).map (fun d => d.parameters.length) = some 1) := ⟨gi_V kw_2_155 kw_2_156 kw_2_157 kw_1_15 kw_2_158, by decide +kernel⟩
theorem dX2_isWord_40 : decode cX2_isWord 40 = .ok (.invokevirtual 111, 3) := by decide +kernel
theorem dX2_isWord_43 : decode cX2_isWord 43 = .ok (.if_icmp .eq 5, 3) := by decide +kernel
theorem dX2_isWord_48 : decode cX2_isWord 48 = .ok (.iinc 2 1, 3) := by decide +kernel
theorem dX2_isWord_51 : decode cX2_isWord 51 = .ok (.goto (-31), 3) := by decide +kernel
theorem dX2_isWord_0 : decode cX2_isWord 0 = .ok (.aload_n 0, 1) := by decide +kernel
theorem dX2_isWord_1 : decode cX2_isWord 1 = .ok (.getfield 28, 3) := by decide +kernel
theorem dX2_isWord_4 : decode cX2_isWord 4 = .ok (.aload_n 0, 1) := by decide +kernel
theorem dX2_isWord_5 : decode cX2_isWord 5 = .ok (.getfield 50, 3) := by decide +kernel
theorem dX2_isWord_8 : decode cX2_isWord 8 = .ok (.isub, 1) := by decide +kernel
theorem dX2_isWord_9 : decode cX2_isWord 9 = .ok (.aload_n 1, 1) := by decide +kernel
theorem dX2_isWord_10 : decode cX2_isWord 10 = .ok (.invokevirtual 102, 3) := by decide +kernel
theorem dX2_isWord_13 : decode cX2_isWord 13 = .ok (.if_icmp .eq 5, 3) := by decide +kernel
theorem dX2_isWord_18 : decode cX2_isWord 18 = .ok (.iconst 0, 1) := by decide +kernel
theorem dX2_isWord_19 : decode cX2_isWord 19 = .ok (.istore_n 2, 1) := by decide +kernel
theorem dX2_isWord_46 : decode cX2_isWord 46 = .ok (.iconst 0, 1) := by decide +kernel
theorem dX2_isWord_47 : decode cX2_isWord 47 = .ok (.ireturn, 1) := by decide +kernel
theorem dX2_isWord_54 : decode cX2_isWord 54 = .ok (.iconst 1, 1) := by decide +kernel
theorem dX2_isWord_55 : decode cX2_isWord 55 = .ok (.ireturn, 1) := by decide +kernel
theorem dX2_isWord_16 : decode cX2_isWord 16 = .ok (.iconst 0, 1) := by decide +kernel
theorem dX2_isWord_17 : decode cX2_isWord 17 = .ok (.ireturn, 1) := by decide +kernel
theorem dX2_kindOfWord_19 : decode cX2_kindOfWord 19 = .ok (.iload_n 3, 1) := by decide +kernel
theorem dX2_kindOfWord_20 : decode cX2_kindOfWord 20 = .ok (.iload_n 2, 1) := by decide +kernel
theorem dX2_kindOfWord_21 : decode cX2_kindOfWord 21 = .ok (.if_icmp .ge 29, 3) := by decide +kernel
theorem dX2_kindOfWord_24 : decode cX2_kindOfWord 24 = .ok (.aload_n 1, 1) := by decide +kernel
theorem dX2_kindOfWord_25 : decode cX2_kindOfWord 25 = .ok (.iload_n 3, 1) := by decide +kernel
theorem dX2_kindOfWord_26 : decode cX2_kindOfWord 26 = .ok (.aaload, 1) := by decide +kernel
theorem dX2_kindOfWord_27 : decode cX2_kindOfWord 27 = .ok (.astore 4, 2) := by decide +kernel
theorem dX2_kindOfWord_29 : decode cX2_kindOfWord 29 = .ok (.aload_n 0, 1) := by decide +kernel
theorem dX2_kindOfWord_30 : decode cX2_kindOfWord 30 = .ok (.aload 4, 2) := by decide +kernel
theorem kw_6_37 : Cond.fieldLink RX2 94 "IceFair$LineKind" "word" "Ljava/lang/String;" ∈ gw := gw_t6 (List.mem_of_getElem? (i := 37) (by decide +kernel)) (by decide +kernel)
theorem dX2_kindOfWord_32 : decode cX2_kindOfWord 32 = .ok (.getfield 94, 3) := by decide +kernel
theorem kw_2_141 : Cond.methodLink RX2 98 yX2_isWord ∈ gw := gw_t2 (List.mem_of_getElem? (i := 141) (by decide +kernel)) (by decide +kernel)
theorem kw_2_143 : Cond.instanceMethod yX2_isWord ∈ gw := gw_t2 (List.mem_of_getElem? (i := 143) (by decide +kernel)) (by decide +kernel)
theorem ks_1_6 : Cond.selects RX2 yX2_isWord yX2_isWord ∈ gw := gw_s (y := yX2_isWord) (n := 9) (List.mem_append_left _ (List.mem_of_getElem? (i := 6) (by decide +kernel)))
theorem kw_2_144 : Cond.code yX2_isWord cX2_isWord 3 (some .boolean) ∈ gw := gw_t2 (List.mem_of_getElem? (i := 144) (by decide +kernel)) (by decide +kernel)
theorem gk_X2_98 : GoodIn gw (wsV RX2 98 RX2 yX2_isWord (.code yX2_isWord cX2_isWord 3 (some .boolean) :: gw)) ∧ (yX2_isWord.cls = RX2 ∧ yX2_isWord.cls ≠ "java/lang/invoke/MethodHandle" ∧ yX2_isWord.cls ≠ "java/lang/invoke/VarHandle" ∧ (parseMethodDescriptor yX2_isWord.desc).map (fun d => d.parameters.length) = some 1) := ⟨gi_V kw_2_141 kw_2_143 ks_1_6 kw_1_3 kw_2_144, by decide +kernel⟩
theorem dX2_kindOfWord_35 : decode cX2_kindOfWord 35 = .ok (.invokevirtual 98, 3) := by decide +kernel
theorem dX2_kindOfWord_38 : decode cX2_kindOfWord 38 = .ok (.ifCond .eq 6, 3) := by decide +kernel
theorem dX2_kindOfWord_44 : decode cX2_kindOfWord 44 = .ok (.iinc 3 1, 3) := by decide +kernel
theorem dX2_kindOfWord_47 : decode cX2_kindOfWord 47 = .ok (.goto (-28), 3) := by decide +kernel
theorem dX2_kindOfWord_0 : decode cX2_kindOfWord 0 = .ok (.aload_n 0, 1) := by decide +kernel
theorem dX2_kindOfWord_1 : decode cX2_kindOfWord 1 = .ok (.getfield 39, 3) := by decide +kernel
theorem dX2_kindOfWord_4 : decode cX2_kindOfWord 4 = .ok (.iconst 1, 1) := by decide +kernel
theorem dX2_kindOfWord_5 : decode cX2_kindOfWord 5 = .ok (.if_icmp .eq 5, 3) := by decide +kernel
theorem dX2_kindOfWord_10 : decode cX2_kindOfWord 10 = .ok (.getstatic 90, 3) := by decide +kernel
theorem dX2_kindOfWord_13 : decode cX2_kindOfWord 13 = .ok (.astore_n 1, 1) := by decide +kernel
theorem dX2_kindOfWord_14 : decode cX2_kindOfWord 14 = .ok (.aload_n 1, 1) := by decide +kernel
theorem dX2_kindOfWord_15 : decode cX2_kindOfWord 15 = .ok (.arraylength, 1) := by decide +kernel
theorem dX2_kindOfWord_16 : decode cX2_kindOfWord 16 = .ok (.istore_n 2, 1) := by decide +kernel
theorem dX2_kindOfWord_17 : decode cX2_kindOfWord 17 = .ok (.iconst 0, 1) := by decide +kernel
theorem dX2_kindOfWord_18 : decode cX2_kindOfWord 18 = .ok (.istore_n 3, 1) := by decide +kernel
theorem dX2_kindOfWord_41 : decode cX2_kindOfWord 41 = .ok (.aload 4, 2) := by decide +kernel
theorem dX2_kindOfWord_43 : decode cX2_kindOfWord 43 = .ok (.areturn, 1) := by decide +kernel
theorem dX2_kindOfWord_50 : decode cX2_kindOfWord 50 = .ok (.aconst_null, 1) := by decide +kernel
theorem dX2_kindOfWord_51 : decode cX2_kindOfWord 51 = .ok (.areturn, 1) := by decide +kernel
theorem dX2_kindOfWord_8 : decode cX2_kindOfWord 8 = .ok (.aconst_null, 1) := by decide +kernel
theorem dX2_kindOfWord_9 : decode cX2_kindOfWord 9 = .ok (.areturn, 1) := by decide +kernel
theorem dX2_readNumbers_8 : decode cX2_readNumbers 8 = .ok (.iload 4, 2) := by decide +kernel
theorem dX2_readNumbers_10 : decode cX2_readNumbers 10 = .ok (.aload_n 1, 1) := by decide +kernel
theorem kw_6_41 : Cond.fieldLink RX2 78 "IceFair$LineKind" "numbers" "I" ∈ gw := gw_t6 (List.mem_of_getElem? (i := 41) (by decide +kernel)) (by decide +kernel)
theorem dX2_readNumbers_11 : decode cX2_readNumbers 11 = .ok (.getfield 78, 3) := by decide +kernel
theorem dX2_readNumbers_14 : decode cX2_readNumbers 14 = .ok (.if_icmp .ge 124, 3) := by decide +kernel
theorem dX2_readNumbers_17 : decode cX2_readNumbers 17 = .ok (.iload 4, 2) := by decide +kernel
theorem dX2_readNumbers_19 : decode cX2_readNumbers 19 = .ok (.aload_n 0, 1) := by decide +kernel
theorem dX2_readNumbers_20 : decode cX2_readNumbers 20 = .ok (.getfield 18, 3) := by decide +kernel
theorem dX2_readNumbers_23 : decode cX2_readNumbers 23 = .ok (.arraylength, 1) := by decide +kernel
theorem dX2_readNumbers_24 : decode cX2_readNumbers 24 = .ok (.if_icmp .ge 114, 3) := by decide +kernel
theorem dX2_readNumbers_27 : decode cX2_readNumbers 27 = .ok (.aload_n 0, 1) := by decide +kernel
theorem kw_2_103 : Cond.methodLink RX2 36 yX2_takeToken ∈ gw := gw_t2 (List.mem_of_getElem? (i := 103) (by decide +kernel)) (by decide +kernel)
theorem kw_2_105 : Cond.instanceMethod yX2_takeToken ∈ gw := gw_t2 (List.mem_of_getElem? (i := 105) (by decide +kernel)) (by decide +kernel)
theorem ks_1_0 : Cond.selects RX2 yX2_takeToken yX2_takeToken ∈ gw := gw_s (y := yX2_takeToken) (n := 9) (List.mem_append_left _ (List.mem_of_getElem? (i := 0) (by decide +kernel)))
theorem kw_2_106 : Cond.code yX2_takeToken cX2_takeToken 1 none ∈ gw := gw_t2 (List.mem_of_getElem? (i := 106) (by decide +kernel)) (by decide +kernel)
theorem gk_X2_36 : GoodIn gw (wsV RX2 36 RX2 yX2_takeToken (.code yX2_takeToken cX2_takeToken 1 none :: gw)) ∧ (yX2_takeToken.cls = RX2 ∧ yX2_takeToken.cls ≠ "java/lang/invoke/MethodHandle" ∧ yX2_takeToken.cls ≠ "java/lang/invoke/VarHandle" ∧ (parseMethodDescriptor yX2_takeToken.desc).map (fun d => d.parameters.length) = some 0) := ⟨gi_V kw_2_103 kw_2_105 ks_1_0 kw_1_3 kw_2_106, by decide +kernel⟩
theorem dX2_readNumbers_28 : decode cX2_readNumbers 28 = .ok (.invokevirtual 36, 3) := by decide +kernel
theorem dX2_readNumbers_31 : decode cX2_readNumbers 31 = .ok (.aload_n 0, 1) := by decide +kernel
theorem dX2_readNumbers_32 : decode cX2_readNumbers 32 = .ok (.getfield 39, 3) := by decide +kernel
theorem dX2_readNumbers_35 : decode cX2_readNumbers 35 = .ok (.iconst 2, 1) := by decide +kernel
theorem dX2_readNumbers_36 : decode cX2_readNumbers 36 = .ok (.if_icmp .eq 13, 3) := by decide +kernel
theorem dX2_readNumbers_49 : decode cX2_readNumbers 49 = .ok (.aload_n 1, 1) := by decide +kernel
theorem dX2_readNumbers_50 : decode cX2_readNumbers 50 = .ok (.iload 4, 2) := by decide +kernel
theorem dX2_readNumbers_52 : decode cX2_readNumbers 52 = .ok (.aload_n 0, 1) := by decide +kernel
theorem dX2_readNumbers_53 : decode cX2_readNumbers 53 = .ok (.getfield 81, 3) := by decide +kernel
theorem kw_2_207 : Cond.methodLink RX2 84 yX5_allows ∈ gw := gw_t2 (List.mem_of_getElem? (i := 207) (by decide +kernel)) (by decide +kernel)
theorem kw_2_208 : Cond.instanceMethod yX5_allows ∈ gw := gw_t2 (List.mem_of_getElem? (i := 208) (by decide +kernel)) (by decide +kernel)
theorem kw_2_209 : Cond.selects RX5 yX5_allows yX5_allows ∈ gw := gw_t2 (List.mem_of_getElem? (i := 209) (by decide +kernel)) (by decide +kernel)
theorem kw_1_14 : Cond.initialized RX5 ∈ gw := gw_t1 (List.mem_of_getElem? (i := 14) (by decide +kernel)) (by decide +kernel)
theorem kw_2_210 : Cond.code yX5_allows cX5_allows 4 (some .boolean) ∈ gw := gw_t2 (List.mem_of_getElem? (i := 210) (by decide +kernel)) (by decide +kernel)
theorem gk_X2_84 : GoodIn gw (wsV RX2 84 RX5 yX5_allows (.code yX5_allows cX5_allows 4 (some .boolean) :: gw)) ∧ (yX5_allows.cls = RX5 ∧ yX5_allows.cls ≠ "java/lang/invoke/MethodHandle" ∧ yX5_allows.cls ≠ "java/lang/invoke/VarHandle" ∧ (parseMethodDescriptor yX5_allows.desc).map (fun d => d.parameters.length) = some 2) := ⟨gi_V kw_2_207 kw_2_208 kw_2_209 kw_1_14 kw_2_210, by decide +kernel⟩
theorem dX2_readNumbers_56 : decode cX2_readNumbers 56 = .ok (.invokevirtual 84, 3) := by decide +kernel
theorem dX2_readNumbers_59 : decode cX2_readNumbers 59 = .ok (.ifCond .ne 13, 3) := by decide +kernel
theorem dX2_readNumbers_72 : decode cX2_readNumbers 72 = .ok (.aload_n 0, 1) := by decide +kernel
theorem dX2_readNumbers_73 : decode cX2_readNumbers 73 = .ok (.getfield 18, 3) := by decide +kernel
theorem dX2_readNumbers_76 : decode cX2_readNumbers 76 = .ok (.iload 4, 2) := by decide +kernel
theorem dX2_readNumbers_78 : decode cX2_readNumbers 78 = .ok (.aload_n 0, 1) := by decide +kernel
theorem dX2_readNumbers_79 : decode cX2_readNumbers 79 = .ok (.getfield 81, 3) := by decide +kernel
theorem dX2_readNumbers_82 : decode cX2_readNumbers 82 = .ok (.iastore, 1) := by decide +kernel
theorem dX2_readNumbers_83 : decode cX2_readNumbers 83 = .ok (.iload 4, 2) := by decide +kernel
theorem dX2_readNumbers_85 : decode cX2_readNumbers 85 = .ok (.ifCond .ne 8, 3) := by decide +kernel
theorem dX2_readNumbers_93 : decode cX2_readNumbers 93 = .ok (.aload_n 1, 1) := by decide +kernel
theorem kw_2_197 : Cond.fieldLink RX2 57 "IceFair$LineKind" "STAIR" "LIceFair$LineKind;" ∈ gw := gw_t2 (List.mem_of_getElem? (i := 197) (by decide +kernel)) (by decide +kernel)
theorem dX2_readNumbers_94 : decode cX2_readNumbers 94 = .ok (.getstatic 57, 3) := by decide +kernel
theorem dX2_readNumbers_97 : decode cX2_readNumbers 97 = .ok (.if_acmp .ne 35, 3) := by decide +kernel
theorem dX2_readNumbers_132 : decode cX2_readNumbers 132 = .ok (.iinc 4 1, 3) := by decide +kernel
theorem dX2_readNumbers_135 : decode cX2_readNumbers 135 = .ok (.goto (-127), 3) := by decide +kernel
theorem dX2_readNumbers_100 : decode cX2_readNumbers 100 = .ok (.iload 4, 2) := by decide +kernel
theorem dX2_readNumbers_102 : decode cX2_readNumbers 102 = .ok (.iconst 1, 1) := by decide +kernel
theorem dX2_readNumbers_103 : decode cX2_readNumbers 103 = .ok (.if_icmp .ne 29, 3) := by decide +kernel
theorem dX2_readNumbers_106 : decode cX2_readNumbers 106 = .ok (.aload_n 2, 1) := by decide +kernel
theorem dX2_readNumbers_107 : decode cX2_readNumbers 107 = .ok (.aload_n 0, 1) := by decide +kernel
theorem dX2_readNumbers_108 : decode cX2_readNumbers 108 = .ok (.getfield 18, 3) := by decide +kernel
theorem dX2_readNumbers_111 : decode cX2_readNumbers 111 = .ok (.iconst 0, 1) := by decide +kernel
theorem dX2_readNumbers_112 : decode cX2_readNumbers 112 = .ok (.iaload, 1) := by decide +kernel
theorem dX2_readNumbers_113 : decode cX2_readNumbers 113 = .ok (.aload_n 0, 1) := by decide +kernel
theorem dX2_readNumbers_114 : decode cX2_readNumbers 114 = .ok (.getfield 18, 3) := by decide +kernel
theorem dX2_readNumbers_117 : decode cX2_readNumbers 117 = .ok (.iconst 1, 1) := by decide +kernel
theorem dX2_readNumbers_118 : decode cX2_readNumbers 118 = .ok (.iaload, 1) := by decide +kernel
theorem kw_2_212 : Cond.methodLink RX2 87 yX1_hasStairAt ∈ gw := gw_t2 (List.mem_of_getElem? (i := 212) (by decide +kernel)) (by decide +kernel)
theorem kw_2_213 : Cond.instanceMethod yX1_hasStairAt ∈ gw := gw_t2 (List.mem_of_getElem? (i := 213) (by decide +kernel)) (by decide +kernel)
theorem kw_2_214 : Cond.selects RX1 yX1_hasStairAt yX1_hasStairAt ∈ gw := gw_t2 (List.mem_of_getElem? (i := 214) (by decide +kernel)) (by decide +kernel)
theorem kw_2_215 : Cond.code yX1_hasStairAt cX1_hasStairAt 4 (some .boolean) ∈ gw := gw_t2 (List.mem_of_getElem? (i := 215) (by decide +kernel)) (by decide +kernel)
theorem gk_X2_87 : GoodIn gw (wsV RX2 87 RX1 yX1_hasStairAt (.code yX1_hasStairAt cX1_hasStairAt 4 (some .boolean) :: gw)) ∧ (yX1_hasStairAt.cls = RX1 ∧ yX1_hasStairAt.cls ≠ "java/lang/invoke/MethodHandle" ∧ yX1_hasStairAt.cls ≠ "java/lang/invoke/VarHandle" ∧ (parseMethodDescriptor yX1_hasStairAt.desc).map (fun d => d.parameters.length) = some 2) := ⟨gi_V kw_2_212 kw_2_213 kw_2_214 kw_1_4 kw_2_215, by decide +kernel⟩
theorem dX2_readNumbers_119 : decode cX2_readNumbers 119 = .ok (.invokevirtual 87, 3) := by decide +kernel
theorem dX2_readNumbers_122 : decode cX2_readNumbers 122 = .ok (.ifCond .eq 10, 3) := by decide +kernel
theorem dX2_readNumbers_88 : decode cX2_readNumbers 88 = .ok (.aload_n 0, 1) := by decide +kernel
theorem dX2_readNumbers_89 : decode cX2_readNumbers 89 = .ok (.getfield 50, 3) := by decide +kernel
theorem dX2_readNumbers_92 : decode cX2_readNumbers 92 = .ok (.istore_n 3, 1) := by decide +kernel
theorem dX2_readNumbers_0 : decode cX2_readNumbers 0 = .ok (.aload_n 0, 1) := by decide +kernel
theorem dX2_readNumbers_1 : decode cX2_readNumbers 1 = .ok (.getfield 28, 3) := by decide +kernel
theorem dX2_readNumbers_4 : decode cX2_readNumbers 4 = .ok (.istore_n 3, 1) := by decide +kernel
theorem dX2_readNumbers_5 : decode cX2_readNumbers 5 = .ok (.iconst 0, 1) := by decide +kernel
theorem dX2_readNumbers_6 : decode cX2_readNumbers 6 = .ok (.istore 4, 2) := by decide +kernel
theorem dX2_readNumbers_39 : decode cX2_readNumbers 39 = .ok (.aload_n 0, 1) := by decide +kernel
theorem dX2_readNumbers_40 : decode cX2_readNumbers 40 = .ok (.iconst 1, 1) := by decide +kernel
theorem dX2_readNumbers_41 : decode cX2_readNumbers 41 = .ok (.aload_n 0, 1) := by decide +kernel
theorem dX2_readNumbers_42 : decode cX2_readNumbers 42 = .ok (.getfield 50, 3) := by decide +kernel
theorem kw_2_193 : Cond.methodLink RX2 53 yX2_refuse ∈ gw := gw_t2 (List.mem_of_getElem? (i := 193) (by decide +kernel)) (by decide +kernel)
theorem kw_2_195 : Cond.instanceMethod yX2_refuse ∈ gw := gw_t2 (List.mem_of_getElem? (i := 195) (by decide +kernel)) (by decide +kernel)
theorem ks_1_7 : Cond.selects RX2 yX2_refuse yX2_refuse ∈ gw := gw_s (y := yX2_refuse) (n := 9) (List.mem_append_left _ (List.mem_of_getElem? (i := 7) (by decide +kernel)))
theorem kw_2_196 : Cond.code yX2_refuse cX2_refuse 3 (some .boolean) ∈ gw := gw_t2 (List.mem_of_getElem? (i := 196) (by decide +kernel)) (by decide +kernel)
theorem gk_X2_53 : GoodIn gw (wsV RX2 53 RX2 yX2_refuse (.code yX2_refuse cX2_refuse 3 (some .boolean) :: gw)) ∧ (yX2_refuse.cls = RX2 ∧ yX2_refuse.cls ≠ "java/lang/invoke/MethodHandle" ∧ yX2_refuse.cls ≠ "java/lang/invoke/VarHandle" ∧ (parseMethodDescriptor yX2_refuse.desc).map (fun d => d.parameters.length) = some 2) := ⟨gi_V kw_2_193 kw_2_195 ks_1_7 kw_1_3 kw_2_196, by decide +kernel⟩
theorem dX2_readNumbers_45 : decode cX2_readNumbers 45 = .ok (.invokevirtual 53, 3) := by decide +kernel
theorem dX2_readNumbers_48 : decode cX2_readNumbers 48 = .ok (.ireturn, 1) := by decide +kernel
theorem dX2_readNumbers_62 : decode cX2_readNumbers 62 = .ok (.aload_n 0, 1) := by decide +kernel
theorem dX2_readNumbers_63 : decode cX2_readNumbers 63 = .ok (.iconst 2, 1) := by decide +kernel
theorem dX2_readNumbers_64 : decode cX2_readNumbers 64 = .ok (.aload_n 0, 1) := by decide +kernel
theorem dX2_readNumbers_65 : decode cX2_readNumbers 65 = .ok (.getfield 50, 3) := by decide +kernel
theorem dX2_readNumbers_68 : decode cX2_readNumbers 68 = .ok (.invokevirtual 53, 3) := by decide +kernel
theorem dX2_readNumbers_71 : decode cX2_readNumbers 71 = .ok (.ireturn, 1) := by decide +kernel
theorem dX2_readNumbers_125 : decode cX2_readNumbers 125 = .ok (.aload_n 0, 1) := by decide +kernel
theorem dX2_readNumbers_126 : decode cX2_readNumbers 126 = .ok (.iconst 3, 1) := by decide +kernel
theorem dX2_readNumbers_127 : decode cX2_readNumbers 127 = .ok (.iload_n 3, 1) := by decide +kernel
theorem dX2_readNumbers_128 : decode cX2_readNumbers 128 = .ok (.invokevirtual 53, 3) := by decide +kernel
theorem dX2_readNumbers_131 : decode cX2_readNumbers 131 = .ok (.ireturn, 1) := by decide +kernel
theorem dX2_readNumbers_138 : decode cX2_readNumbers 138 = .ok (.iconst 1, 1) := by decide +kernel
theorem dX2_readNumbers_139 : decode cX2_readNumbers 139 = .ok (.ireturn, 1) := by decide +kernel
theorem dX2_readLine_0 : decode cX2_readLine 0 = .ok (.aload_n 0, 1) := by decide +kernel
theorem kw_2_135 : Cond.methodLink RX2 46 yX2_kindOfWord ∈ gw := gw_t2 (List.mem_of_getElem? (i := 135) (by decide +kernel)) (by decide +kernel)
theorem kw_2_137 : Cond.instanceMethod yX2_kindOfWord ∈ gw := gw_t2 (List.mem_of_getElem? (i := 137) (by decide +kernel)) (by decide +kernel)
theorem ks_1_5 : Cond.selects RX2 yX2_kindOfWord yX2_kindOfWord ∈ gw := gw_s (y := yX2_kindOfWord) (n := 9) (List.mem_append_left _ (List.mem_of_getElem? (i := 5) (by decide +kernel)))
theorem kw_2_138 : Cond.code yX2_kindOfWord cX2_kindOfWord 5 (some (.object "IceFair$LineKind")) ∈ gw := gw_t2 (List.mem_of_getElem? (i := 138) (by decide +kernel)) (by decide +kernel)
theorem gk_X2_46 : GoodIn gw (wsV RX2 46 RX2 yX2_kindOfWord (.code yX2_kindOfWord cX2_kindOfWord 5 (some (.object "IceFair$LineKind")) :: gw)) ∧ (yX2_kindOfWord.cls = RX2 ∧ yX2_kindOfWord.cls ≠ "java/lang/invoke/MethodHandle" ∧ yX2_kindOfWord.cls ≠ "java/lang/invoke/VarHandle" ∧ (parseMethodDescriptor yX2_kindOfWord.desc).map (fun d => d.parameters.length) = some 0) := ⟨gi_V kw_2_135 kw_2_137 ks_1_5 kw_1_3 kw_2_138, by decide +kernel⟩
theorem dX2_readLine_1 : decode cX2_readLine 1 = .ok (.invokevirtual 46, 3) := by decide +kernel
theorem dX2_readLine_4 : decode cX2_readLine 4 = .ok (.astore_n 2, 1) := by decide +kernel
theorem dX2_readLine_5 : decode cX2_readLine 5 = .ok (.aload_n 2, 1) := by decide +kernel
theorem dX2_readLine_6 : decode cX2_readLine 6 = .ok (.ifnonnull 13, 3) := by decide +kernel
theorem dX2_readLine_9 : decode cX2_readLine 9 = .ok (.aload_n 0, 1) := by decide +kernel
theorem dX2_readLine_10 : decode cX2_readLine 10 = .ok (.iconst 1, 1) := by decide +kernel
theorem dX2_readLine_11 : decode cX2_readLine 11 = .ok (.aload_n 0, 1) := by decide +kernel
theorem dX2_readLine_12 : decode cX2_readLine 12 = .ok (.getfield 50, 3) := by decide +kernel
theorem dX2_readLine_15 : decode cX2_readLine 15 = .ok (.invokevirtual 53, 3) := by decide +kernel
theorem dX2_readLine_18 : decode cX2_readLine 18 = .ok (.ireturn, 1) := by decide +kernel
theorem dX2_readLine_19 : decode cX2_readLine 19 = .ok (.aload_n 2, 1) := by decide +kernel
theorem dX2_readLine_20 : decode cX2_readLine 20 = .ok (.getstatic 57, 3) := by decide +kernel
theorem dX2_readLine_23 : decode cX2_readLine 23 = .ok (.if_acmp .ne 21, 3) := by decide +kernel
theorem dX2_readLine_44 : decode cX2_readLine 44 = .ok (.aload_n 1, 1) := by decide +kernel
theorem dX2_readLine_45 : decode cX2_readLine 45 = .ok (.aload_n 2, 1) := by decide +kernel
theorem kw_2_199 : Cond.methodLink RX2 66 yX1_isTold ∈ gw := gw_t2 (List.mem_of_getElem? (i := 199) (by decide +kernel)) (by decide +kernel)
theorem kw_2_200 : Cond.instanceMethod yX1_isTold ∈ gw := gw_t2 (List.mem_of_getElem? (i := 200) (by decide +kernel)) (by decide +kernel)
theorem kw_2_201 : Cond.selects RX1 yX1_isTold yX1_isTold ∈ gw := gw_t2 (List.mem_of_getElem? (i := 201) (by decide +kernel)) (by decide +kernel)
theorem kw_2_202 : Cond.code yX1_isTold cX1_isTold 2 (some .boolean) ∈ gw := gw_t2 (List.mem_of_getElem? (i := 202) (by decide +kernel)) (by decide +kernel)
theorem gk_X2_66 : GoodIn gw (wsV RX2 66 RX1 yX1_isTold (.code yX1_isTold cX1_isTold 2 (some .boolean) :: gw)) ∧ (yX1_isTold.cls = RX1 ∧ yX1_isTold.cls ≠ "java/lang/invoke/MethodHandle" ∧ yX1_isTold.cls ≠ "java/lang/invoke/VarHandle" ∧ (parseMethodDescriptor yX1_isTold.desc).map (fun d => d.parameters.length) = some 1) := ⟨gi_V kw_2_199 kw_2_200 kw_2_201 kw_1_4 kw_2_202, by decide +kernel⟩
theorem dX2_readLine_46 : decode cX2_readLine 46 = .ok (.invokevirtual 66, 3) := by decide +kernel
theorem dX2_readLine_49 : decode cX2_readLine 49 = .ok (.ifCond .eq 13, 3) := by decide +kernel
theorem dX2_readLine_62 : decode cX2_readLine 62 = .ok (.aload_n 0, 1) := by decide +kernel
theorem dX2_readLine_63 : decode cX2_readLine 63 = .ok (.aload_n 2, 1) := by decide +kernel
theorem dX2_readLine_64 : decode cX2_readLine 64 = .ok (.aload_n 1, 1) := by decide +kernel
theorem kw_2_203 : Cond.methodLink RX2 70 yX2_readNumbers ∈ gw := gw_t2 (List.mem_of_getElem? (i := 203) (by decide +kernel)) (by decide +kernel)
theorem kw_2_205 : Cond.instanceMethod yX2_readNumbers ∈ gw := gw_t2 (List.mem_of_getElem? (i := 205) (by decide +kernel)) (by decide +kernel)
theorem ks_1_8 : Cond.selects RX2 yX2_readNumbers yX2_readNumbers ∈ gw := gw_s (y := yX2_readNumbers) (n := 9) (List.mem_append_left _ (List.mem_of_getElem? (i := 8) (by decide +kernel)))
theorem kw_2_206 : Cond.code yX2_readNumbers cX2_readNumbers 5 (some .boolean) ∈ gw := gw_t2 (List.mem_of_getElem? (i := 206) (by decide +kernel)) (by decide +kernel)
theorem gk_X2_70 : GoodIn gw (wsV RX2 70 RX2 yX2_readNumbers (.code yX2_readNumbers cX2_readNumbers 5 (some .boolean) :: gw)) ∧ (yX2_readNumbers.cls = RX2 ∧ yX2_readNumbers.cls ≠ "java/lang/invoke/MethodHandle" ∧ yX2_readNumbers.cls ≠ "java/lang/invoke/VarHandle" ∧ (parseMethodDescriptor yX2_readNumbers.desc).map (fun d => d.parameters.length) = some 2) := ⟨gi_V kw_2_203 kw_2_205 ks_1_8 kw_1_3 kw_2_206, by decide +kernel⟩
theorem dX2_readLine_65 : decode cX2_readLine 65 = .ok (.invokevirtual 70, 3) := by decide +kernel
theorem dX2_readLine_68 : decode cX2_readLine 68 = .ok (.ifCond .ne 5, 3) := by decide +kernel
theorem dX2_readLine_73 : decode cX2_readLine 73 = .ok (.aload_n 0, 1) := by decide +kernel
theorem dX2_readLine_74 : decode cX2_readLine 74 = .ok (.invokevirtual 36, 3) := by decide +kernel
theorem dX2_readLine_77 : decode cX2_readLine 77 = .ok (.aload_n 0, 1) := by decide +kernel
theorem dX2_readLine_78 : decode cX2_readLine 78 = .ok (.getfield 39, 3) := by decide +kernel
theorem dX2_readLine_81 : decode cX2_readLine 81 = .ok (.iconst 3, 1) := by decide +kernel
theorem dX2_readLine_82 : decode cX2_readLine 82 = .ok (.if_icmp .eq 13, 3) := by decide +kernel
theorem dX2_readLine_95 : decode cX2_readLine 95 = .ok (.aload_n 1, 1) := by decide +kernel
theorem dX2_readLine_96 : decode cX2_readLine 96 = .ok (.aload_n 2, 1) := by decide +kernel
theorem dX2_readLine_97 : decode cX2_readLine 97 = .ok (.aload_n 0, 1) := by decide +kernel
theorem dX2_readLine_98 : decode cX2_readLine 98 = .ok (.getfield 18, 3) := by decide +kernel
theorem kw_2_216 : Cond.methodLink RX2 74 yX1_tell ∈ gw := gw_t2 (List.mem_of_getElem? (i := 216) (by decide +kernel)) (by decide +kernel)
theorem kw_2_217 : Cond.instanceMethod yX1_tell ∈ gw := gw_t2 (List.mem_of_getElem? (i := 217) (by decide +kernel)) (by decide +kernel)
theorem kw_2_218 : Cond.selects RX1 yX1_tell yX1_tell ∈ gw := gw_t2 (List.mem_of_getElem? (i := 218) (by decide +kernel)) (by decide +kernel)
theorem kw_2_219 : Cond.code yX1_tell cX1_tell 4 none ∈ gw := gw_t2 (List.mem_of_getElem? (i := 219) (by decide +kernel)) (by decide +kernel)
theorem gk_X2_74 : GoodIn gw (wsV RX2 74 RX1 yX1_tell (.code yX1_tell cX1_tell 4 none :: gw)) ∧ (yX1_tell.cls = RX1 ∧ yX1_tell.cls ≠ "java/lang/invoke/MethodHandle" ∧ yX1_tell.cls ≠ "java/lang/invoke/VarHandle" ∧ (parseMethodDescriptor yX1_tell.desc).map (fun d => d.parameters.length) = some 2) := ⟨gi_V kw_2_216 kw_2_217 kw_2_218 kw_1_4 kw_2_219, by decide +kernel⟩
theorem dX2_readLine_101 : decode cX2_readLine 101 = .ok (.invokevirtual 74, 3) := by decide +kernel
theorem dX2_readLine_104 : decode cX2_readLine 104 = .ok (.iconst 1, 1) := by decide +kernel
theorem dX2_readLine_105 : decode cX2_readLine 105 = .ok (.ireturn, 1) := by decide +kernel
theorem dX2_readLine_85 : decode cX2_readLine 85 = .ok (.aload_n 0, 1) := by decide +kernel
theorem dX2_readLine_86 : decode cX2_readLine 86 = .ok (.iconst 1, 1) := by decide +kernel
theorem dX2_readLine_87 : decode cX2_readLine 87 = .ok (.aload_n 0, 1) := by decide +kernel
theorem dX2_readLine_88 : decode cX2_readLine 88 = .ok (.getfield 50, 3) := by decide +kernel
theorem dX2_readLine_91 : decode cX2_readLine 91 = .ok (.invokevirtual 53, 3) := by decide +kernel
theorem dX2_readLine_94 : decode cX2_readLine 94 = .ok (.ireturn, 1) := by decide +kernel
theorem dX2_readLine_71 : decode cX2_readLine 71 = .ok (.iconst 0, 1) := by decide +kernel
theorem dX2_readLine_72 : decode cX2_readLine 72 = .ok (.ireturn, 1) := by decide +kernel
theorem dX2_readLine_52 : decode cX2_readLine 52 = .ok (.aload_n 0, 1) := by decide +kernel
theorem dX2_readLine_53 : decode cX2_readLine 53 = .ok (.iconst 3, 1) := by decide +kernel
theorem dX2_readLine_54 : decode cX2_readLine 54 = .ok (.aload_n 0, 1) := by decide +kernel
theorem dX2_readLine_55 : decode cX2_readLine 55 = .ok (.getfield 50, 3) := by decide +kernel
theorem dX2_readLine_58 : decode cX2_readLine 58 = .ok (.invokevirtual 53, 3) := by decide +kernel
theorem dX2_readLine_61 : decode cX2_readLine 61 = .ok (.ireturn, 1) := by decide +kernel
theorem dX2_readLine_26 : decode cX2_readLine 26 = .ok (.aload_n 1, 1) := by decide +kernel
theorem kw_1_108 : Cond.fieldLink RX2 63 "IceFair$Customs" "stairCount" "I" ∈ gw := gw_t1 (List.mem_of_getElem? (i := 108) (by decide +kernel)) (by decide +kernel)
theorem dX2_readLine_27 : decode cX2_readLine 27 = .ok (.getfield 63, 3) := by decide +kernel
theorem dX2_readLine_30 : decode cX2_readLine 30 = .ok (.iconst 4, 1) := by decide +kernel
theorem dX2_readLine_31 : decode cX2_readLine 31 = .ok (.if_icmp .lt 13, 3) := by decide +kernel
theorem dX2_readLine_34 : decode cX2_readLine 34 = .ok (.aload_n 0, 1) := by decide +kernel
theorem dX2_readLine_35 : decode cX2_readLine 35 = .ok (.iconst 2, 1) := by decide +kernel
theorem dX2_readLine_36 : decode cX2_readLine 36 = .ok (.aload_n 0, 1) := by decide +kernel
theorem dX2_readLine_37 : decode cX2_readLine 37 = .ok (.getfield 50, 3) := by decide +kernel
theorem dX2_readLine_40 : decode cX2_readLine 40 = .ok (.invokevirtual 53, 3) := by decide +kernel
theorem dX2_readLine_43 : decode cX2_readLine 43 = .ok (.ireturn, 1) := by decide +kernel
theorem dX2_read_43 : decode cX2_read 43 = .ok (.iload 4, 2) := by decide +kernel
theorem dX2_read_45 : decode cX2_read 45 = .ok (.aload_n 0, 1) := by decide +kernel
theorem dX2_read_46 : decode cX2_read 46 = .ok (.getfield 25, 3) := by decide +kernel
theorem dX2_read_49 : decode cX2_read 49 = .ok (.if_icmp .gt 33, 3) := by decide +kernel
theorem dX2_read_52 : decode cX2_read 52 = .ok (.aload_n 0, 1) := by decide +kernel
theorem dX2_read_53 : decode cX2_read 53 = .ok (.invokevirtual 36, 3) := by decide +kernel
theorem dX2_read_56 : decode cX2_read 56 = .ok (.aload_n 0, 1) := by decide +kernel
theorem dX2_read_57 : decode cX2_read 57 = .ok (.getfield 39, 3) := by decide +kernel
theorem dX2_read_60 : decode cX2_read 60 = .ok (.ifCond .ne 6, 3) := by decide +kernel
theorem dX2_read_66 : decode cX2_read 66 = .ok (.aload_n 0, 1) := by decide +kernel
theorem dX2_read_67 : decode cX2_read 67 = .ok (.aload_n 3, 1) := by decide +kernel
theorem kw_2_131 : Cond.methodLink RX2 42 yX2_readLine ∈ gw := gw_t2 (List.mem_of_getElem? (i := 131) (by decide +kernel)) (by decide +kernel)
theorem kw_2_133 : Cond.instanceMethod yX2_readLine ∈ gw := gw_t2 (List.mem_of_getElem? (i := 133) (by decide +kernel)) (by decide +kernel)
theorem ks_1_4 : Cond.selects RX2 yX2_readLine yX2_readLine ∈ gw := gw_s (y := yX2_readLine) (n := 9) (List.mem_append_left _ (List.mem_of_getElem? (i := 4) (by decide +kernel)))
theorem kw_2_134 : Cond.code yX2_readLine cX2_readLine 3 (some .boolean) ∈ gw := gw_t2 (List.mem_of_getElem? (i := 134) (by decide +kernel)) (by decide +kernel)
theorem gk_X2_42 : GoodIn gw (wsV RX2 42 RX2 yX2_readLine (.code yX2_readLine cX2_readLine 3 (some .boolean) :: gw)) ∧ (yX2_readLine.cls = RX2 ∧ yX2_readLine.cls ≠ "java/lang/invoke/MethodHandle" ∧ yX2_readLine.cls ≠ "java/lang/invoke/VarHandle" ∧ (parseMethodDescriptor yX2_readLine.desc).map (fun d => d.parameters.length) = some 1) := ⟨gi_V kw_2_131 kw_2_133 ks_1_4 kw_1_3 kw_2_134, by decide +kernel⟩
theorem dX2_read_68 : decode cX2_read 68 = .ok (.invokevirtual 42, 3) := by decide +kernel
theorem dX2_read_71 : decode cX2_read 71 = .ok (.ifCond .ne 5, 3) := by decide +kernel
theorem dX2_read_76 : decode cX2_read 76 = .ok (.iinc 4 1, 3) := by decide +kernel
theorem dX2_read_79 : decode cX2_read 79 = .ok (.goto (-36), 3) := by decide +kernel
theorem dX2_read_0 : decode cX2_read 0 = .ok (.aload_n 0, 1) := by decide +kernel
theorem dX2_read_1 : decode cX2_read 1 = .ok (.aload_n 1, 1) := by decide +kernel
theorem dX2_read_2 : decode cX2_read 2 = .ok (.putfield 22, 3) := by decide +kernel
theorem dX2_read_5 : decode cX2_read 5 = .ok (.aload_n 0, 1) := by decide +kernel
theorem dX2_read_6 : decode cX2_read 6 = .ok (.iload_n 2, 1) := by decide +kernel
theorem dX2_read_7 : decode cX2_read 7 = .ok (.aload_n 1, 1) := by decide +kernel
theorem dX2_read_8 : decode cX2_read 8 = .ok (.arraylength, 1) := by decide +kernel
theorem dX2_read_9 : decode cX2_read 9 = .ok (.if_icmp .ge 7, 3) := by decide +kernel
theorem dX2_read_16 : decode cX2_read 16 = .ok (.aload_n 1, 1) := by decide +kernel
theorem dX2_read_17 : decode cX2_read 17 = .ok (.arraylength, 1) := by decide +kernel
theorem dX2_read_18 : decode cX2_read 18 = .ok (.putfield 25, 3) := by decide +kernel
theorem dX2_read_21 : decode cX2_read 21 = .ok (.aload_n 0, 1) := by decide +kernel
theorem dX2_read_22 : decode cX2_read 22 = .ok (.iconst 0, 1) := by decide +kernel
theorem dX2_read_23 : decode cX2_read 23 = .ok (.putfield 28, 3) := by decide +kernel
theorem dX2_read_26 : decode cX2_read 26 = .ok (.aload_n 0, 1) := by decide +kernel
theorem dX2_read_27 : decode cX2_read 27 = .ok (.iconst 0, 1) := by decide +kernel
theorem dX2_read_28 : decode cX2_read 28 = .ok (.putfield 9, 3) := by decide +kernel
theorem dX2_read_31 : decode cX2_read 31 = .ok (.aload_n 0, 1) := by decide +kernel
theorem dX2_read_32 : decode cX2_read 32 = .ok (.iconst (-1), 1) := by decide +kernel
theorem dX2_read_33 : decode cX2_read 33 = .ok (.putfield 15, 3) := by decide +kernel
theorem dX2_read_36 : decode cX2_read 36 = .ok (.aload_n 3, 1) := by decide +kernel
theorem kw_2_102 : Cond.methodLink RX2 31 yX1_forget ∈ gw := gw_t2 (List.mem_of_getElem? (i := 102) (by decide +kernel)) (by decide +kernel)
theorem gk_X2_31 : GoodIn gw (wsV RX2 31 RX1 yX1_forget (.code yX1_forget cX1_forget 1 none :: gw)) ∧ (yX1_forget.cls = RX1 ∧ yX1_forget.cls ≠ "java/lang/invoke/MethodHandle" ∧ yX1_forget.cls ≠ "java/lang/invoke/VarHandle" ∧ (parseMethodDescriptor yX1_forget.desc).map (fun d => d.parameters.length) = some 0) := ⟨gi_V kw_2_102 kw_1_93 kw_1_94 kw_1_4 kw_1_95, by decide +kernel⟩
theorem dX2_read_37 : decode cX2_read 37 = .ok (.invokevirtual 31, 3) := by decide +kernel
theorem dX2_read_40 : decode cX2_read 40 = .ok (.iconst 0, 1) := by decide +kernel
theorem dX2_read_41 : decode cX2_read 41 = .ok (.istore 4, 2) := by decide +kernel
theorem dX2_read_63 : decode cX2_read 63 = .ok (.iload 4, 2) := by decide +kernel
theorem dX2_read_65 : decode cX2_read 65 = .ok (.ireturn, 1) := by decide +kernel
theorem dX2_read_74 : decode cX2_read 74 = .ok (.iconst (-1), 1) := by decide +kernel
theorem dX2_read_75 : decode cX2_read 75 = .ok (.ireturn, 1) := by decide +kernel
theorem dX2_read_12 : decode cX2_read 12 = .ok (.iload_n 2, 1) := by decide +kernel
theorem dX2_read_13 : decode cX2_read 13 = .ok (.goto 5, 3) := by decide +kernel
theorem dX9_feed_13 : decode cX9_feed 13 = .ok (.iconst (-1), 1) := by decide +kernel
theorem dX9_feed_14 : decode cX9_feed 14 = .ok (.ireturn, 1) := by decide +kernel
theorem dX9_customs_0 : decode cX9_customs 0 = .ok (.iload_n 1, 1) := by decide +kernel
theorem dX9_customs_1 : decode cX9_customs 1 = .ok (.ifCond .lt 14, 3) := by decide +kernel
theorem dX9_customs_15 : decode cX9_customs 15 = .ok (.bipush (-2), 2) := by decide +kernel
theorem dX9_customs_17 : decode cX9_customs 17 = .ok (.ireturn, 1) := by decide +kernel
theorem dX9_customs_4 : decode cX9_customs 4 = .ok (.iload_n 1, 1) := by decide +kernel
theorem dX9_customs_5 : decode cX9_customs 5 = .ok (.aload_n 0, 1) := by decide +kernel
theorem dX9_customs_6 : decode cX9_customs 6 = .ok (.getfield 12, 3) := by decide +kernel
theorem dX9_customs_9 : decode cX9_customs 9 = .ok (.getfield 51, 3) := by decide +kernel
theorem dX9_customs_12 : decode cX9_customs 12 = .ok (.if_icmp .le 6, 3) := by decide +kernel
theorem dX9_customs_18 : decode cX9_customs 18 = .ok (.aload_n 0, 1) := by decide +kernel
theorem dX9_customs_19 : decode cX9_customs 19 = .ok (.getfield 19, 3) := by decide +kernel
theorem dX9_customs_22 : decode cX9_customs 22 = .ok (.aload_n 0, 1) := by decide +kernel
theorem dX9_customs_23 : decode cX9_customs 23 = .ok (.getfield 12, 3) := by decide +kernel
theorem kw_1_39 : Cond.fieldLink RX9 59 "IceFair$Tape" "bytes" "[I" ∈ gw := gw_t1 (List.mem_of_getElem? (i := 39) (by decide +kernel)) (by decide +kernel)
theorem dX9_customs_26 : decode cX9_customs 26 = .ok (.getfield 59, 3) := by decide +kernel
theorem dX9_customs_29 : decode cX9_customs 29 = .ok (.iload_n 1, 1) := by decide +kernel
theorem dX9_customs_30 : decode cX9_customs 30 = .ok (.aload_n 0, 1) := by decide +kernel
theorem dX9_customs_31 : decode cX9_customs 31 = .ok (.getfield 26, 3) := by decide +kernel
theorem kw_2_98 : Cond.methodLink RX9 63 yX2_read ∈ gw := gw_t2 (List.mem_of_getElem? (i := 98) (by decide +kernel)) (by decide +kernel)
theorem kw_2_99 : Cond.instanceMethod yX2_read ∈ gw := gw_t2 (List.mem_of_getElem? (i := 99) (by decide +kernel)) (by decide +kernel)
theorem kw_2_100 : Cond.selects RX2 yX2_read yX2_read ∈ gw := gw_t2 (List.mem_of_getElem? (i := 100) (by decide +kernel)) (by decide +kernel)
theorem kw_2_101 : Cond.code yX2_read cX2_read 5 (some .int) ∈ gw := gw_t2 (List.mem_of_getElem? (i := 101) (by decide +kernel)) (by decide +kernel)
theorem gk_X9_63 : GoodIn gw (wsV RX9 63 RX2 yX2_read (.code yX2_read cX2_read 5 (some .int) :: gw)) ∧ (yX2_read.cls = RX2 ∧ yX2_read.cls ≠ "java/lang/invoke/MethodHandle" ∧ yX2_read.cls ≠ "java/lang/invoke/VarHandle" ∧ (parseMethodDescriptor yX2_read.desc).map (fun d => d.parameters.length) = some 3) := ⟨gi_V kw_2_98 kw_2_99 kw_2_100 kw_1_3 kw_2_101, by decide +kernel⟩
theorem dX9_customs_34 : decode cX9_customs 34 = .ok (.invokevirtual 63, 3) := by decide +kernel
theorem dX9_customs_37 : decode cX9_customs 37 = .ok (.istore_n 2, 1) := by decide +kernel
theorem dX9_customs_38 : decode cX9_customs 38 = .ok (.aload_n 0, 1) := by decide +kernel
theorem dX9_customs_39 : decode cX9_customs 39 = .ok (.getfield 12, 3) := by decide +kernel
theorem dX9_customs_42 : decode cX9_customs 42 = .ok (.iconst 0, 1) := by decide +kernel
theorem dX9_customs_43 : decode cX9_customs 43 = .ok (.putfield 51, 3) := by decide +kernel
theorem dX9_customs_46 : decode cX9_customs 46 = .ok (.iload_n 2, 1) := by decide +kernel
theorem dX9_customs_47 : decode cX9_customs 47 = .ok (.iconst (-1), 1) := by decide +kernel
theorem dX9_customs_48 : decode cX9_customs 48 = .ok (.if_icmp .eq 17, 3) := by decide +kernel
theorem dX9_customs_65 : decode cX9_customs 65 = .ok (.iload_n 2, 1) := by decide +kernel
theorem dX9_customs_66 : decode cX9_customs 66 = .ok (.ireturn, 1) := by decide +kernel
theorem dX9_customs_51 : decode cX9_customs 51 = .ok (.aload_n 0, 1) := by decide +kernel
theorem dX9_customs_52 : decode cX9_customs 52 = .ok (.getfield 33, 3) := by decide +kernel
theorem kw_1_218 : Cond.fieldLink RX9 67 "IceFair$Fair" "customs" "LIceFair$Customs;" ∈ gw := gw_t1 (List.mem_of_getElem? (i := 218) (by decide +kernel)) (by decide +kernel)
theorem dX9_customs_55 : decode cX9_customs 55 = .ok (.getfield 67, 3) := by decide +kernel
theorem dX9_customs_58 : decode cX9_customs 58 = .ok (.aload_n 0, 1) := by decide +kernel
theorem dX9_customs_59 : decode cX9_customs 59 = .ok (.getfield 26, 3) := by decide +kernel
theorem kw_2_225 : Cond.methodLink RX9 70 yX1_copyFrom ∈ gw := gw_t2 (List.mem_of_getElem? (i := 225) (by decide +kernel)) (by decide +kernel)
theorem kw_2_226 : Cond.instanceMethod yX1_copyFrom ∈ gw := gw_t2 (List.mem_of_getElem? (i := 226) (by decide +kernel)) (by decide +kernel)
theorem kw_2_227 : Cond.selects RX1 yX1_copyFrom yX1_copyFrom ∈ gw := gw_t2 (List.mem_of_getElem? (i := 227) (by decide +kernel)) (by decide +kernel)
theorem kw_2_228 : Cond.code yX1_copyFrom cX1_copyFrom 2 none ∈ gw := gw_t2 (List.mem_of_getElem? (i := 228) (by decide +kernel)) (by decide +kernel)
theorem gk_X9_70 : GoodIn gw (wsV RX9 70 RX1 yX1_copyFrom (.code yX1_copyFrom cX1_copyFrom 2 none :: gw)) ∧ (yX1_copyFrom.cls = RX1 ∧ yX1_copyFrom.cls ≠ "java/lang/invoke/MethodHandle" ∧ yX1_copyFrom.cls ≠ "java/lang/invoke/VarHandle" ∧ (parseMethodDescriptor yX1_copyFrom.desc).map (fun d => d.parameters.length) = some 1) := ⟨gi_V kw_2_225 kw_2_226 kw_2_227 kw_1_4 kw_2_228, by decide +kernel⟩
theorem dX9_customs_62 : decode cX9_customs 62 = .ok (.invokevirtual 70, 3) := by decide +kernel
theorem dX9_fault_0 : decode cX9_fault 0 = .ok (.iload_n 1, 1) := by decide +kernel
theorem dX9_fault_1 : decode cX9_fault 1 = .ok (.lookupswitch 43 #[(0, 27), (1, 35)], 27) := by decide +kernel
theorem dX9_fault_28 : decode cX9_fault 28 = .ok (.aload_n 0, 1) := by decide +kernel
theorem dX9_fault_29 : decode cX9_fault 29 = .ok (.getfield 19, 3) := by decide +kernel
theorem kw_1_55 : Cond.fieldLink RX9 74 "IceFair$CustomsReader" "faultKind" "I" ∈ gw := gw_t1 (List.mem_of_getElem? (i := 55) (by decide +kernel)) (by decide +kernel)
theorem dX9_fault_32 : decode cX9_fault 32 = .ok (.getfield 74, 3) := by decide +kernel
theorem dX9_fault_35 : decode cX9_fault 35 = .ok (.ireturn, 1) := by decide +kernel
theorem dX9_fault_36 : decode cX9_fault 36 = .ok (.aload_n 0, 1) := by decide +kernel
theorem dX9_fault_37 : decode cX9_fault 37 = .ok (.getfield 19, 3) := by decide +kernel
theorem kw_1_57 : Cond.fieldLink RX9 77 "IceFair$CustomsReader" "faultPlace" "I" ∈ gw := gw_t1 (List.mem_of_getElem? (i := 57) (by decide +kernel)) (by decide +kernel)
theorem dX9_fault_40 : decode cX9_fault 40 = .ok (.getfield 77, 3) := by decide +kernel
theorem dX9_fault_43 : decode cX9_fault 43 = .ok (.ireturn, 1) := by decide +kernel
theorem dX9_fault_44 : decode cX9_fault 44 = .ok (.iconst (-1), 1) := by decide +kernel
theorem dX9_fault_45 : decode cX9_fault 45 = .ok (.ireturn, 1) := by decide +kernel
theorem dX3_renew_0 : decode cX3_renew 0 = .ok (.aload_n 0, 1) := by decide +kernel
theorem dX3_renew_1 : decode cX3_renew 1 = .ok (.getfield 21, 3) := by decide +kernel
theorem dX3_renew_4 : decode cX3_renew 4 = .ok (.iload_n 1, 1) := by decide +kernel
theorem dX3_renew_5 : decode cX3_renew 5 = .ok (.iload_n 2, 1) := by decide +kernel
theorem kw_3_1 : Cond.methodLink RX3 32 yX6_renew ∈ gw := gw_t3 (List.mem_of_getElem? (i := 1) (by decide +kernel)) (by decide +kernel)
theorem gk_X3_32 : GoodIn gw (wsV RX3 32 RX6 yX6_renew (.code yX6_renew cX6_renew 4 none :: gw)) ∧ (yX6_renew.cls = RX6 ∧ yX6_renew.cls ≠ "java/lang/invoke/MethodHandle" ∧ yX6_renew.cls ≠ "java/lang/invoke/VarHandle" ∧ (parseMethodDescriptor yX6_renew.desc).map (fun d => d.parameters.length) = some 2) := ⟨gi_V kw_3_1 kw_1_139 kw_1_140 kw_1_7 kw_1_141, by decide +kernel⟩
theorem dX3_renew_6 : decode cX3_renew 6 = .ok (.invokevirtual 32, 3) := by decide +kernel
theorem dX3_renew_9 : decode cX3_renew 9 = .ok (.aload_n 0, 1) := by decide +kernel
theorem dX3_renew_10 : decode cX3_renew 10 = .ok (.iconst 0, 1) := by decide +kernel
theorem dX3_renew_11 : decode cX3_renew 11 = .ok (.putfield 36, 3) := by decide +kernel
theorem dX3_renew_14 : decode cX3_renew 14 = .ok (.aload_n 0, 1) := by decide +kernel
theorem dX3_renew_15 : decode cX3_renew 15 = .ok (.iconst 0, 1) := by decide +kernel
theorem dX3_renew_16 : decode cX3_renew 16 = .ok (.putfield 40, 3) := by decide +kernel
theorem dX3_renew_19 : decode cX3_renew 19 = .ok (.aload_n 0, 1) := by decide +kernel
theorem dX3_renew_20 : decode cX3_renew 20 = .ok (.iconst 0, 1) := by decide +kernel
theorem dX3_renew_21 : decode cX3_renew 21 = .ok (.putfield 43, 3) := by decide +kernel
theorem dX3_renew_24 : decode cX3_renew 24 = .ok (.return_, 1) := by decide +kernel
theorem dX9_ice_0 : decode cX9_ice 0 = .ok (.iload_n 1, 1) := by decide +kernel
theorem dX9_ice_1 : decode cX9_ice 1 = .ok (.iconst 3, 1) := by decide +kernel
theorem dX9_ice_2 : decode cX9_ice 2 = .ok (.if_icmp .lt 20, 3) := by decide +kernel
theorem dX9_ice_22 : decode cX9_ice 22 = .ok (.iconst 0, 1) := by decide +kernel
theorem dX9_ice_23 : decode cX9_ice 23 = .ok (.ireturn, 1) := by decide +kernel
theorem dX9_ice_5 : decode cX9_ice 5 = .ok (.iload_n 1, 1) := by decide +kernel
theorem dX9_ice_6 : decode cX9_ice 6 = .ok (.bipush 10, 2) := by decide +kernel
theorem dX9_ice_8 : decode cX9_ice 8 = .ok (.if_icmp .gt 14, 3) := by decide +kernel
theorem dX9_ice_11 : decode cX9_ice 11 = .ok (.iload_n 2, 1) := by decide +kernel
theorem dX9_ice_12 : decode cX9_ice 12 = .ok (.iconst 3, 1) := by decide +kernel
theorem dX9_ice_13 : decode cX9_ice 13 = .ok (.if_icmp .lt 9, 3) := by decide +kernel
theorem dX9_ice_16 : decode cX9_ice 16 = .ok (.iload_n 2, 1) := by decide +kernel
theorem dX9_ice_17 : decode cX9_ice 17 = .ok (.bipush 10, 2) := by decide +kernel
theorem dX9_ice_19 : decode cX9_ice 19 = .ok (.if_icmp .le 5, 3) := by decide +kernel
theorem dX9_ice_24 : decode cX9_ice 24 = .ok (.aload_n 0, 1) := by decide +kernel
theorem dX9_ice_25 : decode cX9_ice 25 = .ok (.getfield 33, 3) := by decide +kernel
theorem dX9_ice_28 : decode cX9_ice 28 = .ok (.iload_n 1, 1) := by decide +kernel
theorem dX9_ice_29 : decode cX9_ice 29 = .ok (.iload_n 2, 1) := by decide +kernel
theorem kw_2_237 : Cond.methodLink RX9 80 yX3_renew ∈ gw := gw_t2 (List.mem_of_getElem? (i := 237) (by decide +kernel)) (by decide +kernel)
theorem kw_2_238 : Cond.instanceMethod yX3_renew ∈ gw := gw_t2 (List.mem_of_getElem? (i := 238) (by decide +kernel)) (by decide +kernel)
theorem kw_2_239 : Cond.selects RX3 yX3_renew yX3_renew ∈ gw := gw_t2 (List.mem_of_getElem? (i := 239) (by decide +kernel)) (by decide +kernel)
theorem kw_3_0 : Cond.code yX3_renew cX3_renew 3 none ∈ gw := gw_t3 (List.mem_of_getElem? (i := 0) (by decide +kernel)) (by decide +kernel)
theorem gk_X9_80 : GoodIn gw (wsV RX9 80 RX3 yX3_renew (.code yX3_renew cX3_renew 3 none :: gw)) ∧ (yX3_renew.cls = RX3 ∧ yX3_renew.cls ≠ "java/lang/invoke/MethodHandle" ∧ yX3_renew.cls ≠ "java/lang/invoke/VarHandle" ∧ (parseMethodDescriptor yX3_renew.desc).map (fun d => d.parameters.length) = some 2) := ⟨gi_V kw_2_237 kw_2_238 kw_2_239 kw_1_6 kw_3_0, by decide +kernel⟩
theorem dX9_ice_30 : decode cX9_ice 30 = .ok (.invokevirtual 80, 3) := by decide +kernel
theorem dX9_ice_33 : decode cX9_ice 33 = .ok (.iconst 1, 1) := by decide +kernel
theorem dX9_ice_34 : decode cX9_ice 34 = .ok (.ireturn, 1) := by decide +kernel
theorem dX9_sound_77 : decode cX9_sound 77 = .ok (.iload 9, 2) := by decide +kernel
theorem dX9_sound_79 : decode cX9_sound 79 = .ok (.iload_n 3, 1) := by decide +kernel
theorem dX9_sound_80 : decode cX9_sound 80 = .ok (.if_icmp .gt 22, 3) := by decide +kernel
theorem dX9_sound_83 : decode cX9_sound 83 = .ok (.aload 7, 2) := by decide +kernel
theorem dX9_sound_85 : decode cX9_sound 85 = .ok (.iload 9, 2) := by decide +kernel
theorem dX9_sound_87 : decode cX9_sound 87 = .ok (.iload 8, 2) := by decide +kernel
theorem dX9_sound_89 : decode cX9_sound 89 = .ok (.iload 5, 2) := by decide +kernel
theorem dX9_sound_91 : decode cX9_sound 91 = .ok (.iload 6, 2) := by decide +kernel
theorem kw_3_10 : Cond.methodLink RX9 94 yX6_makeThick ∈ gw := gw_t3 (List.mem_of_getElem? (i := 10) (by decide +kernel)) (by decide +kernel)
theorem gk_X9_94 : GoodIn gw (wsV RX9 94 RX6 yX6_makeThick (.code yX6_makeThick cX6_makeThick 5 none :: gw)) ∧ (yX6_makeThick.cls = RX6 ∧ yX6_makeThick.cls ≠ "java/lang/invoke/MethodHandle" ∧ yX6_makeThick.cls ≠ "java/lang/invoke/VarHandle" ∧ (parseMethodDescriptor yX6_makeThick.desc).map (fun d => d.parameters.length) = some 4) := ⟨gi_V kw_3_10 kw_3_11 kw_3_12 kw_1_7 kw_3_13, by decide +kernel⟩
theorem dX9_sound_93 : decode cX9_sound 93 = .ok (.invokevirtual 94, 3) := by decide +kernel
theorem dX9_sound_96 : decode cX9_sound 96 = .ok (.iinc 9 1, 3) := by decide +kernel
theorem dX9_sound_99 : decode cX9_sound 99 = .ok (.goto (-22), 3) := by decide +kernel
theorem dX9_sound_67 : decode cX9_sound 67 = .ok (.iload 8, 2) := by decide +kernel
theorem dX9_sound_69 : decode cX9_sound 69 = .ok (.iload 4, 2) := by decide +kernel
theorem dX9_sound_71 : decode cX9_sound 71 = .ok (.if_icmp .gt 37, 3) := by decide +kernel
theorem dX9_sound_74 : decode cX9_sound 74 = .ok (.iload_n 1, 1) := by decide +kernel
theorem dX9_sound_75 : decode cX9_sound 75 = .ok (.istore 9, 2) := by decide +kernel
theorem dX9_sound_102 : decode cX9_sound 102 = .ok (.iinc 8 1, 3) := by decide +kernel
theorem dX9_sound_105 : decode cX9_sound 105 = .ok (.goto (-38), 3) := by decide +kernel
theorem dX9_sound_0 : decode cX9_sound 0 = .ok (.aload_n 0, 1) := by decide +kernel
theorem dX9_sound_1 : decode cX9_sound 1 = .ok (.getfield 33, 3) := by decide +kernel
theorem kw_1_222 : Cond.fieldLink RX9 84 "IceFair$Fair" "river" "LIceFair$River;" ∈ gw := gw_t1 (List.mem_of_getElem? (i := 222) (by decide +kernel)) (by decide +kernel)
theorem dX9_sound_4 : decode cX9_sound 4 = .ok (.getfield 84, 3) := by decide +kernel
theorem dX9_sound_7 : decode cX9_sound 7 = .ok (.astore 7, 2) := by decide +kernel
theorem dX9_sound_9 : decode cX9_sound 9 = .ok (.aload 7, 2) := by decide +kernel
theorem dX9_sound_11 : decode cX9_sound 11 = .ok (.iload_n 1, 1) := by decide +kernel
theorem dX9_sound_12 : decode cX9_sound 12 = .ok (.iload_n 2, 1) := by decide +kernel
theorem kw_3_6 : Cond.methodLink RX9 88 yX6_has ∈ gw := gw_t3 (List.mem_of_getElem? (i := 6) (by decide +kernel)) (by decide +kernel)
theorem gk_X9_88 : GoodIn gw (wsV RX9 88 RX6 yX6_has (.code yX6_has cX6_has 3 (some .boolean) :: gw)) ∧ (yX6_has.cls = RX6 ∧ yX6_has.cls ≠ "java/lang/invoke/MethodHandle" ∧ yX6_has.cls ≠ "java/lang/invoke/VarHandle" ∧ (parseMethodDescriptor yX6_has.desc).map (fun d => d.parameters.length) = some 2) := ⟨gi_V kw_3_6 kw_3_7 kw_3_8 kw_1_7 kw_3_9, by decide +kernel⟩
theorem dX9_sound_13 : decode cX9_sound 13 = .ok (.invokevirtual 88, 3) := by decide +kernel
theorem dX9_sound_16 : decode cX9_sound 16 = .ok (.ifCond .eq 25, 3) := by decide +kernel
theorem dX9_sound_41 : decode cX9_sound 41 = .ok (.iconst 0, 1) := by decide +kernel
theorem dX9_sound_42 : decode cX9_sound 42 = .ok (.ireturn, 1) := by decide +kernel
theorem dX9_sound_19 : decode cX9_sound 19 = .ok (.aload 7, 2) := by decide +kernel
theorem dX9_sound_21 : decode cX9_sound 21 = .ok (.iload_n 3, 1) := by decide +kernel
theorem dX9_sound_22 : decode cX9_sound 22 = .ok (.iload 4, 2) := by decide +kernel
theorem dX9_sound_24 : decode cX9_sound 24 = .ok (.invokevirtual 88, 3) := by decide +kernel
theorem dX9_sound_27 : decode cX9_sound 27 = .ok (.ifCond .eq 14, 3) := by decide +kernel
theorem dX9_sound_30 : decode cX9_sound 30 = .ok (.iload_n 1, 1) := by decide +kernel
theorem dX9_sound_31 : decode cX9_sound 31 = .ok (.iload_n 3, 1) := by decide +kernel
theorem dX9_sound_32 : decode cX9_sound 32 = .ok (.if_icmp .gt 9, 3) := by decide +kernel
theorem dX9_sound_35 : decode cX9_sound 35 = .ok (.iload_n 2, 1) := by decide +kernel
theorem dX9_sound_36 : decode cX9_sound 36 = .ok (.iload 4, 2) := by decide +kernel
theorem dX9_sound_38 : decode cX9_sound 38 = .ok (.if_icmp .le 5, 3) := by decide +kernel
theorem dX9_sound_43 : decode cX9_sound 43 = .ok (.iload 5, 2) := by decide +kernel
theorem dX9_sound_45 : decode cX9_sound 45 = .ok (.ifCond .lt 17, 3) := by decide +kernel
theorem dX9_sound_62 : decode cX9_sound 62 = .ok (.iconst 0, 1) := by decide +kernel
theorem dX9_sound_63 : decode cX9_sound 63 = .ok (.ireturn, 1) := by decide +kernel
theorem dX9_sound_48 : decode cX9_sound 48 = .ok (.iload 5, 2) := by decide +kernel
theorem dX9_sound_50 : decode cX9_sound 50 = .ok (.iload 6, 2) := by decide +kernel
theorem dX9_sound_52 : decode cX9_sound 52 = .ok (.if_icmp .gt 10, 3) := by decide +kernel
theorem dX9_sound_55 : decode cX9_sound 55 = .ok (.iload 6, 2) := by decide +kernel
theorem dX9_sound_57 : decode cX9_sound 57 = .ok (.bipush 99, 2) := by decide +kernel
theorem dX9_sound_59 : decode cX9_sound 59 = .ok (.if_icmp .le 5, 3) := by decide +kernel
theorem dX9_sound_64 : decode cX9_sound 64 = .ok (.iload_n 2, 1) := by decide +kernel
theorem dX9_sound_65 : decode cX9_sound 65 = .ok (.istore 8, 2) := by decide +kernel
theorem dX9_sound_108 : decode cX9_sound 108 = .ok (.iconst 1, 1) := by decide +kernel
theorem dX9_sound_109 : decode cX9_sound 109 = .ok (.ireturn, 1) := by decide +kernel
theorem dX9_booth_0 : decode cX9_booth 0 = .ok (.iload_n 1, 1) := by decide +kernel
theorem dX9_booth_1 : decode cX9_booth 1 = .ok (.iconst 1, 1) := by decide +kernel
theorem dX9_booth_2 : decode cX9_booth 2 = .ok (.if_icmp .lt 19, 3) := by decide +kernel
theorem dX9_booth_21 : decode cX9_booth 21 = .ok (.iconst (-1), 1) := by decide +kernel
theorem dX9_booth_22 : decode cX9_booth 22 = .ok (.ireturn, 1) := by decide +kernel
theorem dX9_booth_5 : decode cX9_booth 5 = .ok (.iload_n 1, 1) := by decide +kernel
theorem dX9_booth_6 : decode cX9_booth 6 = .ok (.bipush 50, 2) := by decide +kernel
theorem dX9_booth_8 : decode cX9_booth 8 = .ok (.if_icmp .gt 13, 3) := by decide +kernel
theorem dX9_booth_11 : decode cX9_booth 11 = .ok (.iload_n 3, 1) := by decide +kernel
theorem dX9_booth_12 : decode cX9_booth 12 = .ok (.ifCond .lt 9, 3) := by decide +kernel
theorem dX9_booth_15 : decode cX9_booth 15 = .ok (.iload_n 3, 1) := by decide +kernel
theorem dX9_booth_16 : decode cX9_booth 16 = .ok (.bipush 99, 2) := by decide +kernel
theorem dX9_booth_18 : decode cX9_booth 18 = .ok (.if_icmp .le 5, 3) := by decide +kernel
theorem dX9_booth_23 : decode cX9_booth 23 = .ok (.aload_n 0, 1) := by decide +kernel
theorem dX9_booth_24 : decode cX9_booth 24 = .ok (.getfield 33, 3) := by decide +kernel
theorem dX9_booth_27 : decode cX9_booth 27 = .ok (.iload_n 1, 1) := by decide +kernel
theorem dX9_booth_28 : decode cX9_booth 28 = .ok (.iload_n 2, 1) := by decide +kernel
theorem dX9_booth_29 : decode cX9_booth 29 = .ok (.iload_n 3, 1) := by decide +kernel
theorem kw_3_23 : Cond.methodLink RX9 98 yX3_addBooth ∈ gw := gw_t3 (List.mem_of_getElem? (i := 23) (by decide +kernel)) (by decide +kernel)
theorem kw_3_24 : Cond.instanceMethod yX3_addBooth ∈ gw := gw_t3 (List.mem_of_getElem? (i := 24) (by decide +kernel)) (by decide +kernel)
theorem kw_3_25 : Cond.selects RX3 yX3_addBooth yX3_addBooth ∈ gw := gw_t3 (List.mem_of_getElem? (i := 25) (by decide +kernel)) (by decide +kernel)
theorem kw_3_26 : Cond.code yX3_addBooth cX3_addBooth 5 (some .int) ∈ gw := gw_t3 (List.mem_of_getElem? (i := 26) (by decide +kernel)) (by decide +kernel)
theorem gk_X9_98 : GoodIn gw (wsV RX9 98 RX3 yX3_addBooth (.code yX3_addBooth cX3_addBooth 5 (some .int) :: gw)) ∧ (yX3_addBooth.cls = RX3 ∧ yX3_addBooth.cls ≠ "java/lang/invoke/MethodHandle" ∧ yX3_addBooth.cls ≠ "java/lang/invoke/VarHandle" ∧ (parseMethodDescriptor yX3_addBooth.desc).map (fun d => d.parameters.length) = some 3) := ⟨gi_V kw_3_23 kw_3_24 kw_3_25 kw_1_6 kw_3_26, by decide +kernel⟩
theorem dX9_booth_30 : decode cX9_booth 30 = .ok (.invokevirtual 98, 3) := by decide +kernel
theorem dX9_booth_33 : decode cX9_booth 33 = .ok (.ireturn, 1) := by decide +kernel
theorem dX9_set_0 : decode cX9_set 0 = .ok (.aload_n 0, 1) := by decide +kernel
theorem dX9_set_1 : decode cX9_set 1 = .ok (.getfield 33, 3) := by decide +kernel
theorem dX9_set_4 : decode cX9_set 4 = .ok (.iload_n 1, 1) := by decide +kernel
theorem kw_3_31 : Cond.methodLink RX9 102 yX3_boothNumbered ∈ gw := gw_t3 (List.mem_of_getElem? (i := 31) (by decide +kernel)) (by decide +kernel)
theorem gk_X9_102 : GoodIn gw (wsV RX9 102 RX3 yX3_boothNumbered (.code yX3_boothNumbered cX3_boothNumbered 2 (some (.object "IceFair$Booth")) :: gw)) ∧ (yX3_boothNumbered.cls = RX3 ∧ yX3_boothNumbered.cls ≠ "java/lang/invoke/MethodHandle" ∧ yX3_boothNumbered.cls ≠ "java/lang/invoke/VarHandle" ∧ (parseMethodDescriptor yX3_boothNumbered.desc).map (fun d => d.parameters.length) = some 1) := ⟨gi_V kw_3_31 kw_3_32 kw_3_33 kw_1_6 kw_3_34, by decide +kernel⟩
theorem dX9_set_5 : decode cX9_set 5 = .ok (.invokevirtual 102, 3) := by decide +kernel
theorem dX9_set_8 : decode cX9_set 8 = .ok (.astore 4, 2) := by decide +kernel
theorem dX9_set_10 : decode cX9_set 10 = .ok (.aload 4, 2) := by decide +kernel
theorem dX9_set_12 : decode cX9_set 12 = .ok (.ifnull 25, 3) := by decide +kernel
theorem dX9_set_37 : decode cX9_set 37 = .ok (.iconst (-1), 1) := by decide +kernel
theorem dX9_set_38 : decode cX9_set 38 = .ok (.ireturn, 1) := by decide +kernel
theorem dX9_set_15 : decode cX9_set 15 = .ok (.aload 4, 2) := by decide +kernel
theorem kw_1_193 : Cond.fieldLink RX9 106 "IceFair$Booth" "state" "I" ∈ gw := gw_t1 (List.mem_of_getElem? (i := 193) (by decide +kernel)) (by decide +kernel)
theorem dX9_set_17 : decode cX9_set 17 = .ok (.getfield 106, 3) := by decide +kernel
theorem dX9_set_20 : decode cX9_set 20 = .ok (.ifCond .ne 17, 3) := by decide +kernel
theorem dX9_set_23 : decode cX9_set 23 = .ok (.aload_n 0, 1) := by decide +kernel
theorem dX9_set_24 : decode cX9_set 24 = .ok (.getfield 33, 3) := by decide +kernel
theorem dX9_set_27 : decode cX9_set 27 = .ok (.aload 4, 2) := by decide +kernel
theorem dX9_set_29 : decode cX9_set 29 = .ok (.iload_n 2, 1) := by decide +kernel
theorem dX9_set_30 : decode cX9_set 30 = .ok (.iload_n 3, 1) := by decide +kernel
theorem kw_3_35 : Cond.methodLink RX9 111 yX3_maySet ∈ gw := gw_t3 (List.mem_of_getElem? (i := 35) (by decide +kernel)) (by decide +kernel)
theorem kw_3_36 : Cond.instanceMethod yX3_maySet ∈ gw := gw_t3 (List.mem_of_getElem? (i := 36) (by decide +kernel)) (by decide +kernel)
theorem kw_3_37 : Cond.selects RX3 yX3_maySet yX3_maySet ∈ gw := gw_t3 (List.mem_of_getElem? (i := 37) (by decide +kernel)) (by decide +kernel)
theorem kw_3_38 : Cond.code yX3_maySet cX3_maySet 4 (some .boolean) ∈ gw := gw_t3 (List.mem_of_getElem? (i := 38) (by decide +kernel)) (by decide +kernel)
theorem gk_X9_111 : GoodIn gw (wsV RX9 111 RX3 yX3_maySet (.code yX3_maySet cX3_maySet 4 (some .boolean) :: gw)) ∧ (yX3_maySet.cls = RX3 ∧ yX3_maySet.cls ≠ "java/lang/invoke/MethodHandle" ∧ yX3_maySet.cls ≠ "java/lang/invoke/VarHandle" ∧ (parseMethodDescriptor yX3_maySet.desc).map (fun d => d.parameters.length) = some 3) := ⟨gi_V kw_3_35 kw_3_36 kw_3_37 kw_1_6 kw_3_38, by decide +kernel⟩
theorem dX9_set_31 : decode cX9_set 31 = .ok (.invokevirtual 111, 3) := by decide +kernel
theorem dX9_set_34 : decode cX9_set 34 = .ok (.ifCond .ne 5, 3) := by decide +kernel
theorem dX9_set_39 : decode cX9_set 39 = .ok (.aload_n 0, 1) := by decide +kernel
theorem dX9_set_40 : decode cX9_set 40 = .ok (.getfield 33, 3) := by decide +kernel
theorem dX9_set_43 : decode cX9_set 43 = .ok (.aload 4, 2) := by decide +kernel
theorem dX9_set_45 : decode cX9_set 45 = .ok (.iload_n 2, 1) := by decide +kernel
theorem dX9_set_46 : decode cX9_set 46 = .ok (.iload_n 3, 1) := by decide +kernel
theorem kw_3_92 : Cond.methodLink RX9 115 yX3_put ∈ gw := gw_t3 (List.mem_of_getElem? (i := 92) (by decide +kernel)) (by decide +kernel)
theorem gk_X9_115 : GoodIn gw (wsV RX9 115 RX3 yX3_put (.code yX3_put cX3_put 4 none :: gw)) ∧ (yX3_put.cls = RX3 ∧ yX3_put.cls ≠ "java/lang/invoke/MethodHandle" ∧ yX3_put.cls ≠ "java/lang/invoke/VarHandle" ∧ (parseMethodDescriptor yX3_put.desc).map (fun d => d.parameters.length) = some 3) := ⟨gi_V kw_3_92 kw_3_93 kw_3_94 kw_1_6 kw_3_95, by decide +kernel⟩
theorem dX9_set_47 : decode cX9_set 47 = .ok (.invokevirtual 115, 3) := by decide +kernel
theorem dX9_set_50 : decode cX9_set 50 = .ok (.aload_n 0, 1) := by decide +kernel
theorem dX9_set_51 : decode cX9_set 51 = .ok (.getfield 33, 3) := by decide +kernel
theorem dX9_set_54 : decode cX9_set 54 = .ok (.aload 4, 2) := by decide +kernel
theorem kw_3_102 : Cond.methodLink RX9 119 yX3_takeFee ∈ gw := gw_t3 (List.mem_of_getElem? (i := 102) (by decide +kernel)) (by decide +kernel)
theorem gk_X9_119 : GoodIn gw (wsV RX9 119 RX3 yX3_takeFee (.code yX3_takeFee cX3_takeFee 3 (some .int) :: gw)) ∧ (yX3_takeFee.cls = RX3 ∧ yX3_takeFee.cls ≠ "java/lang/invoke/MethodHandle" ∧ yX3_takeFee.cls ≠ "java/lang/invoke/VarHandle" ∧ (parseMethodDescriptor yX3_takeFee.desc).map (fun d => d.parameters.length) = some 1) := ⟨gi_V kw_3_102 kw_3_103 kw_3_104 kw_1_6 kw_3_105, by decide +kernel⟩
theorem dX9_set_56 : decode cX9_set 56 = .ok (.invokevirtual 119, 3) := by decide +kernel
theorem dX9_set_59 : decode cX9_set 59 = .ok (.ireturn, 1) := by decide +kernel
theorem dX9_clear_0 : decode cX9_clear 0 = .ok (.aload_n 0, 1) := by decide +kernel
theorem dX9_clear_1 : decode cX9_clear 1 = .ok (.getfield 33, 3) := by decide +kernel
theorem dX9_clear_4 : decode cX9_clear 4 = .ok (.iload_n 1, 1) := by decide +kernel
theorem dX9_clear_5 : decode cX9_clear 5 = .ok (.invokevirtual 102, 3) := by decide +kernel
theorem dX9_clear_8 : decode cX9_clear 8 = .ok (.astore_n 2, 1) := by decide +kernel
theorem dX9_clear_9 : decode cX9_clear 9 = .ok (.aload_n 2, 1) := by decide +kernel
theorem dX9_clear_10 : decode cX9_clear 10 = .ok (.ifnull 11, 3) := by decide +kernel
theorem dX9_clear_21 : decode cX9_clear 21 = .ok (.iconst 0, 1) := by decide +kernel
theorem dX9_clear_22 : decode cX9_clear 22 = .ok (.ireturn, 1) := by decide +kernel
theorem dX9_clear_13 : decode cX9_clear 13 = .ok (.aload_n 2, 1) := by decide +kernel
theorem dX9_clear_14 : decode cX9_clear 14 = .ok (.getfield 106, 3) := by decide +kernel
theorem dX9_clear_17 : decode cX9_clear 17 = .ok (.iconst 1, 1) := by decide +kernel
theorem dX9_clear_18 : decode cX9_clear 18 = .ok (.if_icmp .eq 5, 3) := by decide +kernel
theorem dX9_clear_23 : decode cX9_clear 23 = .ok (.aload_n 0, 1) := by decide +kernel
theorem dX9_clear_24 : decode cX9_clear 24 = .ok (.getfield 33, 3) := by decide +kernel
theorem dX9_clear_27 : decode cX9_clear 27 = .ok (.aload_n 2, 1) := by decide +kernel
theorem dX9_clear_28 : decode cX9_clear 28 = .ok (.iconst 0, 1) := by decide +kernel
theorem kw_3_118 : Cond.methodLink RX9 123 yX3_lift ∈ gw := gw_t3 (List.mem_of_getElem? (i := 118) (by decide +kernel)) (by decide +kernel)
theorem gk_X9_123 : GoodIn gw (wsV RX9 123 RX3 yX3_lift (.code yX3_lift cX3_lift 3 none :: gw)) ∧ (yX3_lift.cls = RX3 ∧ yX3_lift.cls ≠ "java/lang/invoke/MethodHandle" ∧ yX3_lift.cls ≠ "java/lang/invoke/VarHandle" ∧ (parseMethodDescriptor yX3_lift.desc).map (fun d => d.parameters.length) = some 2) := ⟨gi_V kw_3_118 kw_3_119 kw_3_120 kw_1_6 kw_3_121, by decide +kernel⟩
theorem dX9_clear_29 : decode cX9_clear 29 = .ok (.invokevirtual 123, 3) := by decide +kernel
theorem dX9_clear_32 : decode cX9_clear 32 = .ok (.iconst 1, 1) := by decide +kernel
theorem dX9_clear_33 : decode cX9_clear 33 = .ok (.ireturn, 1) := by decide +kernel
theorem dX9_hour_0 : decode cX9_hour 0 = .ok (.iload_n 1, 1) := by decide +kernel
theorem dX9_hour_1 : decode cX9_hour 1 = .ok (.bipush (-9), 2) := by decide +kernel
theorem dX9_hour_3 : decode cX9_hour 3 = .ok (.if_icmp .lt 9, 3) := by decide +kernel
theorem dX9_hour_12 : decode cX9_hour 12 = .ok (.iconst (-1), 1) := by decide +kernel
theorem dX9_hour_13 : decode cX9_hour 13 = .ok (.ireturn, 1) := by decide +kernel
theorem dX9_hour_6 : decode cX9_hour 6 = .ok (.iload_n 1, 1) := by decide +kernel
theorem dX9_hour_7 : decode cX9_hour 7 = .ok (.bipush 9, 2) := by decide +kernel
theorem dX9_hour_9 : decode cX9_hour 9 = .ok (.if_icmp .le 5, 3) := by decide +kernel
theorem dX9_hour_14 : decode cX9_hour 14 = .ok (.aload_n 0, 1) := by decide +kernel
theorem dX9_hour_15 : decode cX9_hour 15 = .ok (.getfield 33, 3) := by decide +kernel
theorem dX9_hour_18 : decode cX9_hour 18 = .ok (.iload_n 1, 1) := by decide +kernel
theorem kw_3_126 : Cond.methodLink RX9 127 yX3_passHour ∈ gw := gw_t3 (List.mem_of_getElem? (i := 126) (by decide +kernel)) (by decide +kernel)
theorem kw_3_127 : Cond.instanceMethod yX3_passHour ∈ gw := gw_t3 (List.mem_of_getElem? (i := 127) (by decide +kernel)) (by decide +kernel)
theorem kw_3_128 : Cond.selects RX3 yX3_passHour yX3_passHour ∈ gw := gw_t3 (List.mem_of_getElem? (i := 128) (by decide +kernel)) (by decide +kernel)
theorem kw_3_129 : Cond.code yX3_passHour cX3_passHour 4 (some .int) ∈ gw := gw_t3 (List.mem_of_getElem? (i := 129) (by decide +kernel)) (by decide +kernel)
theorem gk_X9_127 : GoodIn gw (wsV RX9 127 RX3 yX3_passHour (.code yX3_passHour cX3_passHour 4 (some .int) :: gw)) ∧ (yX3_passHour.cls = RX3 ∧ yX3_passHour.cls ≠ "java/lang/invoke/MethodHandle" ∧ yX3_passHour.cls ≠ "java/lang/invoke/VarHandle" ∧ (parseMethodDescriptor yX3_passHour.desc).map (fun d => d.parameters.length) = some 1) := ⟨gi_V kw_3_126 kw_3_127 kw_3_128 kw_1_6 kw_3_129, by decide +kernel⟩
theorem dX9_hour_19 : decode cX9_hour 19 = .ok (.invokevirtual 127, 3) := by decide +kernel
theorem dX9_hour_22 : decode cX9_hour 22 = .ok (.ireturn, 1) := by decide +kernel
theorem dX9_lay_0 : decode cX9_lay 0 = .ok (.aload_n 0, 1) := by decide +kernel
theorem dX9_lay_1 : decode cX9_lay 1 = .ok (.getfield 40, 3) := by decide +kernel
theorem dX9_lay_4 : decode cX9_lay 4 = .ok (.aload_n 0, 1) := by decide +kernel
theorem dX9_lay_5 : decode cX9_lay 5 = .ok (.getfield 33, 3) := by decide +kernel
theorem kw_3_190 : Cond.methodLink RX9 131 yX4_layAll ∈ gw := gw_t3 (List.mem_of_getElem? (i := 190) (by decide +kernel)) (by decide +kernel)
theorem kw_3_191 : Cond.instanceMethod yX4_layAll ∈ gw := gw_t3 (List.mem_of_getElem? (i := 191) (by decide +kernel)) (by decide +kernel)
theorem kw_3_192 : Cond.selects RX4 yX4_layAll yX4_layAll ∈ gw := gw_t3 (List.mem_of_getElem? (i := 192) (by decide +kernel)) (by decide +kernel)
theorem kw_3_193 : Cond.code yX4_layAll cX4_layAll 2 (some .int) ∈ gw := gw_t3 (List.mem_of_getElem? (i := 193) (by decide +kernel)) (by decide +kernel)
theorem gk_X9_131 : GoodIn gw (wsV RX9 131 RX4 yX4_layAll (.code yX4_layAll cX4_layAll 2 (some .int) :: gw)) ∧ (yX4_layAll.cls = RX4 ∧ yX4_layAll.cls ≠ "java/lang/invoke/MethodHandle" ∧ yX4_layAll.cls ≠ "java/lang/invoke/VarHandle" ∧ (parseMethodDescriptor yX4_layAll.desc).map (fun d => d.parameters.length) = some 1) := ⟨gi_V kw_3_190 kw_3_191 kw_3_192 kw_1_9 kw_3_193, by decide +kernel⟩
theorem dX9_lay_8 : decode cX9_lay 8 = .ok (.invokevirtual 131, 3) := by decide +kernel
theorem dX9_lay_11 : decode cX9_lay 11 = .ok (.ireturn, 1) := by decide +kernel
theorem dX9_soon_0 : decode cX9_soon 0 = .ok (.aload_n 0, 1) := by decide +kernel
theorem dX9_soon_1 : decode cX9_soon 1 = .ok (.getfield 47, 3) := by decide +kernel
theorem dX9_soon_4 : decode cX9_soon 4 = .ok (.aload_n 0, 1) := by decide +kernel
theorem dX9_soon_5 : decode cX9_soon 5 = .ok (.getfield 33, 3) := by decide +kernel
theorem kw_3_238 : Cond.methodLink RX9 135 yX8_leastMinutes ∈ gw := gw_t3 (List.mem_of_getElem? (i := 238) (by decide +kernel)) (by decide +kernel)
theorem kw_3_239 : Cond.instanceMethod yX8_leastMinutes ∈ gw := gw_t3 (List.mem_of_getElem? (i := 239) (by decide +kernel)) (by decide +kernel)
theorem kw_4_0 : Cond.selects RX8 yX8_leastMinutes yX8_leastMinutes ∈ gw := gw_t4 (List.mem_of_getElem? (i := 0) (by decide +kernel)) (by decide +kernel)
theorem kw_4_1 : Cond.code yX8_leastMinutes cX8_leastMinutes 4 (some .int) ∈ gw := gw_t4 (List.mem_of_getElem? (i := 1) (by decide +kernel)) (by decide +kernel)
theorem gk_X9_135 : GoodIn gw (wsV RX9 135 RX8 yX8_leastMinutes (.code yX8_leastMinutes cX8_leastMinutes 4 (some .int) :: gw)) ∧ (yX8_leastMinutes.cls = RX8 ∧ yX8_leastMinutes.cls ≠ "java/lang/invoke/MethodHandle" ∧ yX8_leastMinutes.cls ≠ "java/lang/invoke/VarHandle" ∧ (parseMethodDescriptor yX8_leastMinutes.desc).map (fun d => d.parameters.length) = some 1) := ⟨gi_V kw_3_238 kw_3_239 kw_4_0 kw_1_10 kw_4_1, by decide +kernel⟩
theorem dX9_soon_8 : decode cX9_soon 8 = .ok (.invokevirtual 135, 3) := by decide +kernel
theorem dX9_soon_11 : decode cX9_soon 11 = .ok (.ireturn, 1) := by decide +kernel
theorem dX9_proof_0 : decode cX9_proof 0 = .ok (.aload_n 0, 1) := by decide +kernel
theorem dX9_proof_1 : decode cX9_proof 1 = .ok (.getfield 47, 3) := by decide +kernel
theorem dX9_proof_4 : decode cX9_proof 4 = .ok (.aload_n 0, 1) := by decide +kernel
theorem dX9_proof_5 : decode cX9_proof 5 = .ok (.getfield 33, 3) := by decide +kernel
theorem dX9_proof_8 : decode cX9_proof 8 = .ok (.invokevirtual 135, 3) := by decide +kernel
theorem dX9_proof_11 : decode cX9_proof 11 = .ok (.istore_n 1, 1) := by decide +kernel
theorem dX9_proof_12 : decode cX9_proof 12 = .ok (.iload_n 1, 1) := by decide +kernel
theorem dX9_proof_13 : decode cX9_proof 13 = .ok (.ifCond .gt 7, 3) := by decide +kernel
theorem dX9_proof_20 : decode cX9_proof 20 = .ok (.aload_n 0, 1) := by decide +kernel
theorem dX9_proof_21 : decode cX9_proof 21 = .ok (.getfield 47, 3) := by decide +kernel
theorem dX9_proof_24 : decode cX9_proof 24 = .ok (.aload_n 0, 1) := by decide +kernel
theorem dX9_proof_25 : decode cX9_proof 25 = .ok (.getfield 33, 3) := by decide +kernel
theorem dX9_proof_28 : decode cX9_proof 28 = .ok (.iload_n 1, 1) := by decide +kernel
theorem kw_4_56 : Cond.methodLink RX9 138 yX8_leastLateGroup ∈ gw := gw_t4 (List.mem_of_getElem? (i := 56) (by decide +kernel)) (by decide +kernel)
theorem kw_4_57 : Cond.instanceMethod yX8_leastLateGroup ∈ gw := gw_t4 (List.mem_of_getElem? (i := 57) (by decide +kernel)) (by decide +kernel)
theorem kw_4_58 : Cond.selects RX8 yX8_leastLateGroup yX8_leastLateGroup ∈ gw := gw_t4 (List.mem_of_getElem? (i := 58) (by decide +kernel)) (by decide +kernel)
theorem kw_4_59 : Cond.code yX8_leastLateGroup cX8_leastLateGroup 4 (some .int) ∈ gw := gw_t4 (List.mem_of_getElem? (i := 59) (by decide +kernel)) (by decide +kernel)
theorem gk_X9_138 : GoodIn gw (wsV RX9 138 RX8 yX8_leastLateGroup (.code yX8_leastLateGroup cX8_leastLateGroup 4 (some .int) :: gw)) ∧ (yX8_leastLateGroup.cls = RX8 ∧ yX8_leastLateGroup.cls ≠ "java/lang/invoke/MethodHandle" ∧ yX8_leastLateGroup.cls ≠ "java/lang/invoke/VarHandle" ∧ (parseMethodDescriptor yX8_leastLateGroup.desc).map (fun d => d.parameters.length) = some 2) := ⟨gi_V kw_4_56 kw_4_57 kw_4_58 kw_1_10 kw_4_59, by decide +kernel⟩
theorem dX9_proof_29 : decode cX9_proof 29 = .ok (.invokevirtual 138, 3) := by decide +kernel
theorem dX9_proof_32 : decode cX9_proof 32 = .ok (.ireturn, 1) := by decide +kernel
theorem dX9_proof_16 : decode cX9_proof 16 = .ok (.iconst (-1), 1) := by decide +kernel
theorem dX9_proof_17 : decode cX9_proof 17 = .ok (.goto 15, 3) := by decide +kernel
theorem dX9_count_0 : decode cX9_count 0 = .ok (.iload_n 1, 1) := by decide +kernel
theorem dX9_count_1 : decode cX9_count 1 = .ok (.tableswitch 131 0 8 #[51, 59, 68, 77, 88, 96, 104, 112, 123], 51) := by decide +kernel
theorem dX9_count_52 : decode cX9_count 52 = .ok (.aload_n 0, 1) := by decide +kernel
theorem dX9_count_53 : decode cX9_count 53 = .ok (.getfield 33, 3) := by decide +kernel
theorem kw_1_229 : Cond.fieldLink RX9 199 "IceFair$Fair" "boothCount" "I" ∈ gw := gw_t1 (List.mem_of_getElem? (i := 229) (by decide +kernel)) (by decide +kernel)
theorem dX9_count_56 : decode cX9_count 56 = .ok (.getfield 199, 3) := by decide +kernel
theorem dX9_count_59 : decode cX9_count 59 = .ok (.ireturn, 1) := by decide +kernel
theorem dX9_count_60 : decode cX9_count 60 = .ok (.aload_n 0, 1) := by decide +kernel
theorem dX9_count_61 : decode cX9_count 61 = .ok (.getfield 33, 3) := by decide +kernel
theorem dX9_count_64 : decode cX9_count 64 = .ok (.iconst 1, 1) := by decide +kernel
theorem kw_4_64 : Cond.methodLink RX9 202 yX3_boothsInState ∈ gw := gw_t4 (List.mem_of_getElem? (i := 64) (by decide +kernel)) (by decide +kernel)
theorem kw_4_65 : Cond.instanceMethod yX3_boothsInState ∈ gw := gw_t4 (List.mem_of_getElem? (i := 65) (by decide +kernel)) (by decide +kernel)
theorem kw_4_66 : Cond.selects RX3 yX3_boothsInState yX3_boothsInState ∈ gw := gw_t4 (List.mem_of_getElem? (i := 66) (by decide +kernel)) (by decide +kernel)
theorem kw_4_67 : Cond.code yX3_boothsInState cX3_boothsInState 4 (some .int) ∈ gw := gw_t4 (List.mem_of_getElem? (i := 67) (by decide +kernel)) (by decide +kernel)
theorem gk_X9_202 : GoodIn gw (wsV RX9 202 RX3 yX3_boothsInState (.code yX3_boothsInState cX3_boothsInState 4 (some .int) :: gw)) ∧ (yX3_boothsInState.cls = RX3 ∧ yX3_boothsInState.cls ≠ "java/lang/invoke/MethodHandle" ∧ yX3_boothsInState.cls ≠ "java/lang/invoke/VarHandle" ∧ (parseMethodDescriptor yX3_boothsInState.desc).map (fun d => d.parameters.length) = some 1) := ⟨gi_V kw_4_64 kw_4_65 kw_4_66 kw_1_6 kw_4_67, by decide +kernel⟩
theorem dX9_count_65 : decode cX9_count 65 = .ok (.invokevirtual 202, 3) := by decide +kernel
theorem dX9_count_68 : decode cX9_count 68 = .ok (.ireturn, 1) := by decide +kernel
theorem dX9_count_69 : decode cX9_count 69 = .ok (.aload_n 0, 1) := by decide +kernel
theorem dX9_count_70 : decode cX9_count 70 = .ok (.getfield 33, 3) := by decide +kernel
theorem dX9_count_73 : decode cX9_count 73 = .ok (.iconst 2, 1) := by decide +kernel
theorem dX9_count_74 : decode cX9_count 74 = .ok (.invokevirtual 202, 3) := by decide +kernel
theorem dX9_count_77 : decode cX9_count 77 = .ok (.ireturn, 1) := by decide +kernel
theorem dX9_count_78 : decode cX9_count 78 = .ok (.aload_n 0, 1) := by decide +kernel
theorem dX9_count_79 : decode cX9_count 79 = .ok (.getfield 33, 3) := by decide +kernel
theorem dX9_count_82 : decode cX9_count 82 = .ok (.getfield 84, 3) := by decide +kernel
theorem kw_4_68 : Cond.methodLink RX9 205 yX6_crackCount ∈ gw := gw_t4 (List.mem_of_getElem? (i := 68) (by decide +kernel)) (by decide +kernel)
theorem kw_4_69 : Cond.instanceMethod yX6_crackCount ∈ gw := gw_t4 (List.mem_of_getElem? (i := 69) (by decide +kernel)) (by decide +kernel)
theorem kw_4_70 : Cond.selects RX6 yX6_crackCount yX6_crackCount ∈ gw := gw_t4 (List.mem_of_getElem? (i := 70) (by decide +kernel)) (by decide +kernel)
theorem kw_4_71 : Cond.code yX6_crackCount cX6_crackCount 3 (some .int) ∈ gw := gw_t4 (List.mem_of_getElem? (i := 71) (by decide +kernel)) (by decide +kernel)
theorem gk_X9_205 : GoodIn gw (wsV RX9 205 RX6 yX6_crackCount (.code yX6_crackCount cX6_crackCount 3 (some .int) :: gw)) ∧ (yX6_crackCount.cls = RX6 ∧ yX6_crackCount.cls ≠ "java/lang/invoke/MethodHandle" ∧ yX6_crackCount.cls ≠ "java/lang/invoke/VarHandle" ∧ (parseMethodDescriptor yX6_crackCount.desc).map (fun d => d.parameters.length) = some 0) := ⟨gi_V kw_4_68 kw_4_69 kw_4_70 kw_1_7 kw_4_71, by decide +kernel⟩
theorem dX9_count_85 : decode cX9_count 85 = .ok (.invokevirtual 205, 3) := by decide +kernel
theorem dX9_count_88 : decode cX9_count 88 = .ok (.ireturn, 1) := by decide +kernel
theorem dX9_count_89 : decode cX9_count 89 = .ok (.aload_n 0, 1) := by decide +kernel
theorem dX9_count_90 : decode cX9_count 90 = .ok (.getfield 33, 3) := by decide +kernel
theorem kw_1_231 : Cond.fieldLink RX9 208 "IceFair$Fair" "hours" "I" ∈ gw := gw_t1 (List.mem_of_getElem? (i := 231) (by decide +kernel)) (by decide +kernel)
theorem dX9_count_93 : decode cX9_count 93 = .ok (.getfield 208, 3) := by decide +kernel
theorem dX9_count_96 : decode cX9_count 96 = .ok (.ireturn, 1) := by decide +kernel
theorem dX9_count_97 : decode cX9_count 97 = .ok (.aload_n 0, 1) := by decide +kernel
theorem dX9_count_98 : decode cX9_count 98 = .ok (.getfield 33, 3) := by decide +kernel
theorem kw_1_233 : Cond.fieldLink RX9 211 "IceFair$Fair" "fees" "I" ∈ gw := gw_t1 (List.mem_of_getElem? (i := 233) (by decide +kernel)) (by decide +kernel)
theorem dX9_count_101 : decode cX9_count 101 = .ok (.getfield 211, 3) := by decide +kernel
theorem dX9_count_104 : decode cX9_count 104 = .ok (.ireturn, 1) := by decide +kernel
theorem dX9_count_105 : decode cX9_count 105 = .ok (.aload_n 0, 1) := by decide +kernel
theorem dX9_count_106 : decode cX9_count 106 = .ok (.getfield 40, 3) := by decide +kernel
theorem kw_2_14 : Cond.fieldLink RX9 214 "IceFair$Laying" "looks" "I" ∈ gw := gw_t2 (List.mem_of_getElem? (i := 14) (by decide +kernel)) (by decide +kernel)
theorem dX9_count_109 : decode cX9_count 109 = .ok (.getfield 214, 3) := by decide +kernel
theorem dX9_count_112 : decode cX9_count 112 = .ok (.ireturn, 1) := by decide +kernel
theorem dX9_count_113 : decode cX9_count 113 = .ok (.aload_n 0, 1) := by decide +kernel
theorem dX9_count_114 : decode cX9_count 114 = .ok (.getfield 33, 3) := by decide +kernel
theorem dX9_count_117 : decode cX9_count 117 = .ok (.getfield 67, 3) := by decide +kernel
theorem kw_1_109 : Cond.fieldLink RX9 217 "IceFair$Customs" "stairCount" "I" ∈ gw := gw_t1 (List.mem_of_getElem? (i := 109) (by decide +kernel)) (by decide +kernel)
theorem dX9_count_120 : decode cX9_count 120 = .ok (.getfield 217, 3) := by decide +kernel
theorem dX9_count_123 : decode cX9_count 123 = .ok (.ireturn, 1) := by decide +kernel
theorem dX9_count_124 : decode cX9_count 124 = .ok (.aload_n 0, 1) := by decide +kernel
theorem dX9_count_125 : decode cX9_count 125 = .ok (.getfield 33, 3) := by decide +kernel
theorem kw_4_72 : Cond.methodLink RX9 220 yX3_boothsToMove ∈ gw := gw_t4 (List.mem_of_getElem? (i := 72) (by decide +kernel)) (by decide +kernel)
theorem kw_4_73 : Cond.instanceMethod yX3_boothsToMove ∈ gw := gw_t4 (List.mem_of_getElem? (i := 73) (by decide +kernel)) (by decide +kernel)
theorem kw_4_74 : Cond.selects RX3 yX3_boothsToMove yX3_boothsToMove ∈ gw := gw_t4 (List.mem_of_getElem? (i := 74) (by decide +kernel)) (by decide +kernel)
theorem kw_4_75 : Cond.code yX3_boothsToMove cX3_boothsToMove 3 (some .int) ∈ gw := gw_t4 (List.mem_of_getElem? (i := 75) (by decide +kernel)) (by decide +kernel)
theorem gk_X9_220 : GoodIn gw (wsV RX9 220 RX3 yX3_boothsToMove (.code yX3_boothsToMove cX3_boothsToMove 3 (some .int) :: gw)) ∧ (yX3_boothsToMove.cls = RX3 ∧ yX3_boothsToMove.cls ≠ "java/lang/invoke/MethodHandle" ∧ yX3_boothsToMove.cls ≠ "java/lang/invoke/VarHandle" ∧ (parseMethodDescriptor yX3_boothsToMove.desc).map (fun d => d.parameters.length) = some 0) := ⟨gi_V kw_4_72 kw_4_73 kw_4_74 kw_1_6 kw_4_75, by decide +kernel⟩
theorem dX9_count_128 : decode cX9_count 128 = .ok (.invokevirtual 220, 3) := by decide +kernel
theorem dX9_count_131 : decode cX9_count 131 = .ok (.ireturn, 1) := by decide +kernel
theorem dX9_count_132 : decode cX9_count 132 = .ok (.iconst (-1), 1) := by decide +kernel
theorem dX9_count_133 : decode cX9_count 133 = .ok (.ireturn, 1) := by decide +kernel
