theorem dX4_gatherWaiting_7 : decode cX4_gatherWaiting 7 = .ok (.iload_n 2, 1) := by decide +kernel
theorem dX4_gatherWaiting_8 : decode cX4_gatherWaiting 8 = .ok (.aload_n 1, 1) := by decide +kernel
theorem kw_1_227 : Cond.fieldLink RX4 78 "IceFair$Fair" "boothCount" "I" ∈ gw := gw_t1 (List.mem_of_getElem? (i := 227) (by decide +kernel)) (by decide +kernel)
theorem dX4_gatherWaiting_9 : decode cX4_gatherWaiting 9 = .ok (.getfield 78, 3) := by decide +kernel
theorem dX4_gatherWaiting_12 : decode cX4_gatherWaiting 12 = .ok (.if_icmp .ge 47, 3) := by decide +kernel
theorem dX4_gatherWaiting_15 : decode cX4_gatherWaiting 15 = .ok (.iload_n 2, 1) := by decide +kernel
theorem dX4_gatherWaiting_16 : decode cX4_gatherWaiting 16 = .ok (.bipush 10, 2) := by decide +kernel
theorem dX4_gatherWaiting_18 : decode cX4_gatherWaiting 18 = .ok (.if_icmp .ge 41, 3) := by decide +kernel
theorem dX4_gatherWaiting_21 : decode cX4_gatherWaiting 21 = .ok (.aload_n 1, 1) := by decide +kernel
theorem kw_1_224 : Cond.fieldLink RX4 81 "IceFair$Fair" "booths" "[LIceFair$Booth;" ∈ gw := gw_t1 (List.mem_of_getElem? (i := 224) (by decide +kernel)) (by decide +kernel)
theorem dX4_gatherWaiting_22 : decode cX4_gatherWaiting 22 = .ok (.getfield 81, 3) := by decide +kernel
theorem dX4_gatherWaiting_25 : decode cX4_gatherWaiting 25 = .ok (.iload_n 2, 1) := by decide +kernel
theorem dX4_gatherWaiting_26 : decode cX4_gatherWaiting 26 = .ok (.aaload, 1) := by decide +kernel
theorem kw_1_191 : Cond.fieldLink RX4 85 "IceFair$Booth" "state" "I" ∈ gw := gw_t1 (List.mem_of_getElem? (i := 191) (by decide +kernel)) (by decide +kernel)
theorem dX4_gatherWaiting_27 : decode cX4_gatherWaiting 27 = .ok (.getfield 85, 3) := by decide +kernel
theorem dX4_gatherWaiting_30 : decode cX4_gatherWaiting 30 = .ok (.ifCond .ne 23, 3) := by decide +kernel
theorem dX4_gatherWaiting_53 : decode cX4_gatherWaiting 53 = .ok (.iinc 2 1, 3) := by decide +kernel
theorem dX4_gatherWaiting_56 : decode cX4_gatherWaiting 56 = .ok (.goto (-49), 3) := by decide +kernel
theorem dX4_gatherWaiting_33 : decode cX4_gatherWaiting 33 = .ok (.aload_n 0, 1) := by decide +kernel
theorem dX4_gatherWaiting_34 : decode cX4_gatherWaiting 34 = .ok (.getfield 9, 3) := by decide +kernel
theorem dX4_gatherWaiting_37 : decode cX4_gatherWaiting 37 = .ok (.aload_n 0, 1) := by decide +kernel
theorem kw_2_16 : Cond.fieldLink RX4 75 "IceFair$Laying" "waitingCount" "I" ∈ gw := gw_t2 (List.mem_of_getElem? (i := 16) (by decide +kernel)) (by decide +kernel)
theorem dX4_gatherWaiting_38 : decode cX4_gatherWaiting 38 = .ok (.getfield 75, 3) := by decide +kernel
theorem dX4_gatherWaiting_41 : decode cX4_gatherWaiting 41 = .ok (.iload_n 2, 1) := by decide +kernel
theorem dX4_gatherWaiting_42 : decode cX4_gatherWaiting 42 = .ok (.iastore, 1) := by decide +kernel
theorem dX4_gatherWaiting_43 : decode cX4_gatherWaiting 43 = .ok (.aload_n 0, 1) := by decide +kernel
theorem dX4_gatherWaiting_44 : decode cX4_gatherWaiting 44 = .ok (.dup, 1) := by decide +kernel
theorem dX4_gatherWaiting_45 : decode cX4_gatherWaiting 45 = .ok (.getfield 75, 3) := by decide +kernel
theorem dX4_gatherWaiting_48 : decode cX4_gatherWaiting 48 = .ok (.iconst 1, 1) := by decide +kernel
theorem dX4_gatherWaiting_49 : decode cX4_gatherWaiting 49 = .ok (.iadd, 1) := by decide +kernel
theorem dX4_gatherWaiting_50 : decode cX4_gatherWaiting 50 = .ok (.putfield 75, 3) := by decide +kernel
theorem dX4_gatherWaiting_0 : decode cX4_gatherWaiting 0 = .ok (.aload_n 0, 1) := by decide +kernel
theorem dX4_gatherWaiting_1 : decode cX4_gatherWaiting 1 = .ok (.iconst 0, 1) := by decide +kernel
theorem dX4_gatherWaiting_2 : decode cX4_gatherWaiting 2 = .ok (.putfield 75, 3) := by decide +kernel
theorem dX4_gatherWaiting_5 : decode cX4_gatherWaiting 5 = .ok (.iconst 0, 1) := by decide +kernel
theorem dX4_gatherWaiting_6 : decode cX4_gatherWaiting 6 = .ok (.istore_n 2, 1) := by decide +kernel
theorem dX4_gatherWaiting_59 : decode cX4_gatherWaiting 59 = .ok (.return_, 1) := by decide +kernel
theorem dX4_gatherOpen_20 : decode cX4_gatherOpen 20 = .ok (.iload_n 3, 1) := by decide +kernel
theorem dX4_gatherOpen_21 : decode cX4_gatherOpen 21 = .ok (.aload_n 1, 1) := by decide +kernel
theorem kw_1_220 : Cond.fieldLink RX4 39 "IceFair$Fair" "river" "LIceFair$River;" ∈ gw := gw_t1 (List.mem_of_getElem? (i := 220) (by decide +kernel)) (by decide +kernel)
theorem dX4_gatherOpen_22 : decode cX4_gatherOpen 22 = .ok (.getfield 39, 3) := by decide +kernel
theorem kw_1_143 : Cond.fieldLink RX4 96 "IceFair$River" "width" "I" ∈ gw := gw_t1 (List.mem_of_getElem? (i := 143) (by decide +kernel)) (by decide +kernel)
theorem dX4_gatherOpen_25 : decode cX4_gatherOpen 25 = .ok (.getfield 96, 3) := by decide +kernel
theorem dX4_gatherOpen_28 : decode cX4_gatherOpen 28 = .ok (.if_icmp .ge 93, 3) := by decide +kernel
theorem dX4_gatherOpen_31 : decode cX4_gatherOpen 31 = .ok (.aload_n 1, 1) := by decide +kernel
theorem dX4_gatherOpen_32 : decode cX4_gatherOpen 32 = .ok (.getfield 39, 3) := by decide +kernel
theorem dX4_gatherOpen_35 : decode cX4_gatherOpen 35 = .ok (.iload_n 3, 1) := by decide +kernel
theorem dX4_gatherOpen_36 : decode cX4_gatherOpen 36 = .ok (.iload_n 2, 1) := by decide +kernel
theorem kw_3_202 : Cond.methodLink RX4 99 yX6_isOpen ∈ gw := gw_t3 (List.mem_of_getElem? (i := 202) (by decide +kernel)) (by decide +kernel)
theorem gk_X4_99 : GoodIn gw (wsV RX4 99 RX6 yX6_isOpen (.code yX6_isOpen cX6_isOpen 3 (some .boolean) :: gw)) ∧ (yX6_isOpen.cls = RX6 ∧ yX6_isOpen.cls ≠ "java/lang/invoke/MethodHandle" ∧ yX6_isOpen.cls ≠ "java/lang/invoke/VarHandle" ∧ (parseMethodDescriptor yX6_isOpen.desc).map (fun d => d.parameters.length) = some 2) := ⟨gi_V kw_3_202 kw_3_40 kw_3_41 kw_1_7 kw_3_42, by decide +kernel⟩
theorem dX4_gatherOpen_37 : decode cX4_gatherOpen 37 = .ok (.invokevirtual 99, 3) := by decide +kernel
theorem dX4_gatherOpen_40 : decode cX4_gatherOpen 40 = .ok (.ifCond .eq 75, 3) := by decide +kernel
theorem dX4_gatherOpen_115 : decode cX4_gatherOpen 115 = .ok (.iinc 3 1, 3) := by decide +kernel
theorem dX4_gatherOpen_118 : decode cX4_gatherOpen 118 = .ok (.goto (-98), 3) := by decide +kernel
theorem dX4_gatherOpen_43 : decode cX4_gatherOpen 43 = .ok (.aload_n 0, 1) := by decide +kernel
theorem kw_2_20 : Cond.fieldLink RX4 90 "IceFair$Laying" "openCount" "I" ∈ gw := gw_t2 (List.mem_of_getElem? (i := 20) (by decide +kernel)) (by decide +kernel)
theorem dX4_gatherOpen_44 : decode cX4_gatherOpen 44 = .ok (.getfield 90, 3) := by decide +kernel
theorem dX4_gatherOpen_47 : decode cX4_gatherOpen 47 = .ok (.bipush 100, 2) := by decide +kernel
theorem dX4_gatherOpen_49 : decode cX4_gatherOpen 49 = .ok (.if_icmp .ge 66, 3) := by decide +kernel
theorem dX4_gatherOpen_52 : decode cX4_gatherOpen 52 = .ok (.aload_n 0, 1) := by decide +kernel
theorem dX4_gatherOpen_53 : decode cX4_gatherOpen 53 = .ok (.getfield 15, 3) := by decide +kernel
theorem dX4_gatherOpen_56 : decode cX4_gatherOpen 56 = .ok (.aload_n 0, 1) := by decide +kernel
theorem dX4_gatherOpen_57 : decode cX4_gatherOpen 57 = .ok (.getfield 90, 3) := by decide +kernel
theorem dX4_gatherOpen_60 : decode cX4_gatherOpen 60 = .ok (.iload_n 3, 1) := by decide +kernel
theorem dX4_gatherOpen_61 : decode cX4_gatherOpen 61 = .ok (.iastore, 1) := by decide +kernel
theorem dX4_gatherOpen_62 : decode cX4_gatherOpen 62 = .ok (.aload_n 0, 1) := by decide +kernel
theorem dX4_gatherOpen_63 : decode cX4_gatherOpen 63 = .ok (.getfield 18, 3) := by decide +kernel
theorem dX4_gatherOpen_66 : decode cX4_gatherOpen 66 = .ok (.aload_n 0, 1) := by decide +kernel
theorem dX4_gatherOpen_67 : decode cX4_gatherOpen 67 = .ok (.getfield 90, 3) := by decide +kernel
theorem dX4_gatherOpen_70 : decode cX4_gatherOpen 70 = .ok (.iload_n 2, 1) := by decide +kernel
theorem dX4_gatherOpen_71 : decode cX4_gatherOpen 71 = .ok (.iastore, 1) := by decide +kernel
theorem dX4_gatherOpen_72 : decode cX4_gatherOpen 72 = .ok (.aload_n 0, 1) := by decide +kernel
theorem dX4_gatherOpen_73 : decode cX4_gatherOpen 73 = .ok (.getfield 21, 3) := by decide +kernel
theorem dX4_gatherOpen_76 : decode cX4_gatherOpen 76 = .ok (.aload_n 0, 1) := by decide +kernel
theorem dX4_gatherOpen_77 : decode cX4_gatherOpen 77 = .ok (.getfield 90, 3) := by decide +kernel
theorem dX4_gatherOpen_80 : decode cX4_gatherOpen 80 = .ok (.aload_n 1, 1) := by decide +kernel
theorem dX4_gatherOpen_81 : decode cX4_gatherOpen 81 = .ok (.getfield 39, 3) := by decide +kernel
theorem dX4_gatherOpen_84 : decode cX4_gatherOpen 84 = .ok (.aload_n 1, 1) := by decide +kernel
theorem kw_1_217 : Cond.fieldLink RX4 45 "IceFair$Fair" "customs" "LIceFair$Customs;" ∈ gw := gw_t1 (List.mem_of_getElem? (i := 217) (by decide +kernel)) (by decide +kernel)
theorem dX4_gatherOpen_85 : decode cX4_gatherOpen 85 = .ok (.getfield 45, 3) := by decide +kernel
theorem kw_3_203 : Cond.methodLink RX4 103 yX1_near ∈ gw := gw_t3 (List.mem_of_getElem? (i := 203) (by decide +kernel)) (by decide +kernel)
theorem gk_X4_103 : GoodIn gw (wsV RX4 103 RX1 yX1_near (.code yX1_near cX1_near 1 (some .int) :: gw)) ∧ (yX1_near.cls = RX1 ∧ yX1_near.cls ≠ "java/lang/invoke/MethodHandle" ∧ yX1_near.cls ≠ "java/lang/invoke/VarHandle" ∧ (parseMethodDescriptor yX1_near.desc).map (fun d => d.parameters.length) = some 0) := ⟨gi_V kw_3_203 kw_3_48 kw_3_49 kw_1_4 kw_3_50, by decide +kernel⟩
theorem dX4_gatherOpen_88 : decode cX4_gatherOpen 88 = .ok (.invokevirtual 103, 3) := by decide +kernel
theorem dX4_gatherOpen_91 : decode cX4_gatherOpen 91 = .ok (.iload_n 3, 1) := by decide +kernel
theorem dX4_gatherOpen_92 : decode cX4_gatherOpen 92 = .ok (.iload_n 2, 1) := by decide +kernel
theorem kw_3_204 : Cond.methodLink RX4 106 yX6_hasCrackNearerThan ∈ gw := gw_t3 (List.mem_of_getElem? (i := 204) (by decide +kernel)) (by decide +kernel)
theorem gk_X4_106 : GoodIn gw (wsV RX4 106 RX6 yX6_hasCrackNearerThan (.code yX6_hasCrackNearerThan cX6_hasCrackNearerThan 6 (some .boolean) :: gw)) ∧ (yX6_hasCrackNearerThan.cls = RX6 ∧ yX6_hasCrackNearerThan.cls ≠ "java/lang/invoke/MethodHandle" ∧ yX6_hasCrackNearerThan.cls ≠ "java/lang/invoke/VarHandle" ∧ (parseMethodDescriptor yX6_hasCrackNearerThan.desc).map (fun d => d.parameters.length) = some 3) := ⟨gi_V kw_3_204 kw_3_52 kw_3_53 kw_1_7 kw_3_54, by decide +kernel⟩
theorem dX4_gatherOpen_93 : decode cX4_gatherOpen 93 = .ok (.invokevirtual 106, 3) := by decide +kernel
theorem dX4_gatherOpen_96 : decode cX4_gatherOpen 96 = .ok (.ifCond .ne 7, 3) := by decide +kernel
theorem dX4_gatherOpen_103 : decode cX4_gatherOpen 103 = .ok (.iconst 0, 1) := by decide +kernel
theorem dX4_gatherOpen_104 : decode cX4_gatherOpen 104 = .ok (.bastore, 1) := by decide +kernel
theorem dX4_gatherOpen_105 : decode cX4_gatherOpen 105 = .ok (.aload_n 0, 1) := by decide +kernel
theorem dX4_gatherOpen_106 : decode cX4_gatherOpen 106 = .ok (.dup, 1) := by decide +kernel
theorem dX4_gatherOpen_107 : decode cX4_gatherOpen 107 = .ok (.getfield 90, 3) := by decide +kernel
theorem dX4_gatherOpen_110 : decode cX4_gatherOpen 110 = .ok (.iconst 1, 1) := by decide +kernel
theorem dX4_gatherOpen_111 : decode cX4_gatherOpen 111 = .ok (.iadd, 1) := by decide +kernel
theorem dX4_gatherOpen_112 : decode cX4_gatherOpen 112 = .ok (.putfield 90, 3) := by decide +kernel
theorem dX4_gatherOpen_99 : decode cX4_gatherOpen 99 = .ok (.iconst 1, 1) := by decide +kernel
theorem dX4_gatherOpen_100 : decode cX4_gatherOpen 100 = .ok (.goto 4, 3) := by decide +kernel
theorem dX4_gatherOpen_7 : decode cX4_gatherOpen 7 = .ok (.iload_n 2, 1) := by decide +kernel
theorem dX4_gatherOpen_8 : decode cX4_gatherOpen 8 = .ok (.aload_n 1, 1) := by decide +kernel
theorem dX4_gatherOpen_9 : decode cX4_gatherOpen 9 = .ok (.getfield 39, 3) := by decide +kernel
theorem kw_1_146 : Cond.fieldLink RX4 93 "IceFair$River" "height" "I" ∈ gw := gw_t1 (List.mem_of_getElem? (i := 146) (by decide +kernel)) (by decide +kernel)
theorem dX4_gatherOpen_12 : decode cX4_gatherOpen 12 = .ok (.getfield 93, 3) := by decide +kernel
theorem dX4_gatherOpen_15 : decode cX4_gatherOpen 15 = .ok (.if_icmp .ge 112, 3) := by decide +kernel
theorem dX4_gatherOpen_18 : decode cX4_gatherOpen 18 = .ok (.iconst 0, 1) := by decide +kernel
theorem dX4_gatherOpen_19 : decode cX4_gatherOpen 19 = .ok (.istore_n 3, 1) := by decide +kernel
theorem dX4_gatherOpen_121 : decode cX4_gatherOpen 121 = .ok (.iinc 2 1, 3) := by decide +kernel
theorem dX4_gatherOpen_124 : decode cX4_gatherOpen 124 = .ok (.goto (-117), 3) := by decide +kernel
theorem dX4_gatherOpen_0 : decode cX4_gatherOpen 0 = .ok (.aload_n 0, 1) := by decide +kernel
theorem dX4_gatherOpen_1 : decode cX4_gatherOpen 1 = .ok (.iconst 0, 1) := by decide +kernel
theorem dX4_gatherOpen_2 : decode cX4_gatherOpen 2 = .ok (.putfield 90, 3) := by decide +kernel
theorem dX4_gatherOpen_5 : decode cX4_gatherOpen 5 = .ok (.iconst 0, 1) := by decide +kernel
theorem dX4_gatherOpen_6 : decode cX4_gatherOpen 6 = .ok (.istore_n 2, 1) := by decide +kernel
theorem dX4_gatherOpen_127 : decode cX4_gatherOpen 127 = .ok (.return_, 1) := by decide +kernel
theorem dX4_setNext_31 : decode cX4_setNext 31 = .ok (.iload 4, 2) := by decide +kernel
theorem dX4_setNext_33 : decode cX4_setNext 33 = .ok (.aload_n 0, 1) := by decide +kernel
theorem dX4_setNext_34 : decode cX4_setNext 34 = .ok (.getfield 90, 3) := by decide +kernel
theorem dX4_setNext_37 : decode cX4_setNext 37 = .ok (.if_icmp .ge 133, 3) := by decide +kernel
theorem dX4_setNext_40 : decode cX4_setNext 40 = .ok (.iload 4, 2) := by decide +kernel
theorem dX4_setNext_42 : decode cX4_setNext 42 = .ok (.bipush 100, 2) := by decide +kernel
theorem dX4_setNext_44 : decode cX4_setNext 44 = .ok (.if_icmp .ge 126, 3) := by decide +kernel
theorem dX4_setNext_47 : decode cX4_setNext 47 = .ok (.aload_n 1, 1) := by decide +kernel
theorem dX4_setNext_48 : decode cX4_setNext 48 = .ok (.getfield 39, 3) := by decide +kernel
theorem dX4_setNext_51 : decode cX4_setNext 51 = .ok (.aload_n 0, 1) := by decide +kernel
theorem dX4_setNext_52 : decode cX4_setNext 52 = .ok (.getfield 15, 3) := by decide +kernel
theorem dX4_setNext_55 : decode cX4_setNext 55 = .ok (.iload 4, 2) := by decide +kernel
theorem dX4_setNext_57 : decode cX4_setNext 57 = .ok (.iaload, 1) := by decide +kernel
theorem dX4_setNext_58 : decode cX4_setNext 58 = .ok (.aload_n 0, 1) := by decide +kernel
theorem dX4_setNext_59 : decode cX4_setNext 59 = .ok (.getfield 18, 3) := by decide +kernel
theorem dX4_setNext_62 : decode cX4_setNext 62 = .ok (.iload 4, 2) := by decide +kernel
theorem dX4_setNext_64 : decode cX4_setNext 64 = .ok (.iaload, 1) := by decide +kernel
theorem dX4_setNext_65 : decode cX4_setNext 65 = .ok (.invokevirtual 99, 3) := by decide +kernel
theorem dX4_setNext_68 : decode cX4_setNext 68 = .ok (.ifCond .ne 6, 3) := by decide +kernel
theorem dX4_setNext_74 : decode cX4_setNext 74 = .ok (.aload_n 0, 1) := by decide +kernel
theorem dX4_setNext_75 : decode cX4_setNext 75 = .ok (.dup, 1) := by decide +kernel
theorem kw_2_13 : Cond.fieldLink RX4 28 "IceFair$Laying" "looks" "I" ∈ gw := gw_t2 (List.mem_of_getElem? (i := 13) (by decide +kernel)) (by decide +kernel)
theorem dX4_setNext_76 : decode cX4_setNext 76 = .ok (.getfield 28, 3) := by decide +kernel
theorem dX4_setNext_79 : decode cX4_setNext 79 = .ok (.iconst 1, 1) := by decide +kernel
theorem dX4_setNext_80 : decode cX4_setNext 80 = .ok (.iadd, 1) := by decide +kernel
theorem dX4_setNext_81 : decode cX4_setNext 81 = .ok (.putfield 28, 3) := by decide +kernel
theorem dX4_setNext_84 : decode cX4_setNext 84 = .ok (.aload_n 0, 1) := by decide +kernel
theorem dX4_setNext_85 : decode cX4_setNext 85 = .ok (.getfield 28, 3) := by decide +kernel
theorem dX4_setNext_88 : decode cX4_setNext 88 = .ok (.sipush 20000, 3) := by decide +kernel
theorem dX4_setNext_91 : decode cX4_setNext 91 = .ok (.if_icmp .le 5, 3) := by decide +kernel
theorem dX4_setNext_96 : decode cX4_setNext 96 = .ok (.aload_n 0, 1) := by decide +kernel
theorem kw_2_22 : Cond.fieldLink RX4 61 "IceFair$Laying" "allBears" "Z" ∈ gw := gw_t2 (List.mem_of_getElem? (i := 22) (by decide +kernel)) (by decide +kernel)
theorem dX4_setNext_97 : decode cX4_setNext 97 = .ok (.getfield 61, 3) := by decide +kernel
theorem dX4_setNext_100 : decode cX4_setNext 100 = .ok (.ifCond .eq 64, 3) := by decide +kernel
theorem dX4_setNext_164 : decode cX4_setNext 164 = .ok (.iinc 4 1, 3) := by decide +kernel
theorem dX4_setNext_167 : decode cX4_setNext 167 = .ok (.goto (-136), 3) := by decide +kernel
theorem dX4_setNext_103 : decode cX4_setNext 103 = .ok (.aload_n 0, 1) := by decide +kernel
theorem dX4_setNext_104 : decode cX4_setNext 104 = .ok (.getfield 21, 3) := by decide +kernel
theorem dX4_setNext_107 : decode cX4_setNext 107 = .ok (.iload 4, 2) := by decide +kernel
theorem dX4_setNext_109 : decode cX4_setNext 109 = .ok (.baload, 1) := by decide +kernel
theorem dX4_setNext_110 : decode cX4_setNext 110 = .ok (.ifCond .eq 54, 3) := by decide +kernel
theorem dX4_setNext_113 : decode cX4_setNext 113 = .ok (.aload_n 1, 1) := by decide +kernel
theorem dX4_setNext_114 : decode cX4_setNext 114 = .ok (.aload_n 3, 1) := by decide +kernel
theorem dX4_setNext_115 : decode cX4_setNext 115 = .ok (.aload_n 0, 1) := by decide +kernel
theorem dX4_setNext_116 : decode cX4_setNext 116 = .ok (.getfield 15, 3) := by decide +kernel
theorem dX4_setNext_119 : decode cX4_setNext 119 = .ok (.iload 4, 2) := by decide +kernel
theorem dX4_setNext_121 : decode cX4_setNext 121 = .ok (.iaload, 1) := by decide +kernel
theorem dX4_setNext_122 : decode cX4_setNext 122 = .ok (.aload_n 0, 1) := by decide +kernel
theorem dX4_setNext_123 : decode cX4_setNext 123 = .ok (.getfield 18, 3) := by decide +kernel
theorem dX4_setNext_126 : decode cX4_setNext 126 = .ok (.iload 4, 2) := by decide +kernel
theorem dX4_setNext_128 : decode cX4_setNext 128 = .ok (.iaload, 1) := by decide +kernel
theorem kw_3_218 : Cond.methodLink RX4 129 yX3_suits ∈ gw := gw_t3 (List.mem_of_getElem? (i := 218) (by decide +kernel)) (by decide +kernel)
theorem gk_X4_129 : GoodIn gw (wsV RX4 129 RX3 yX3_suits (.code yX3_suits cX3_suits 4 (some .boolean) :: gw)) ∧ (yX3_suits.cls = RX3 ∧ yX3_suits.cls ≠ "java/lang/invoke/MethodHandle" ∧ yX3_suits.cls ≠ "java/lang/invoke/VarHandle" ∧ (parseMethodDescriptor yX3_suits.desc).map (fun d => d.parameters.length) = some 3) := ⟨gi_V kw_3_218 kw_3_68 kw_3_69 kw_1_6 kw_3_70, by decide +kernel⟩
theorem dX4_setNext_129 : decode cX4_setNext 129 = .ok (.invokevirtual 129, 3) := by decide +kernel
theorem dX4_setNext_132 : decode cX4_setNext 132 = .ok (.ifCond .eq 32, 3) := by decide +kernel
theorem dX4_setNext_71 : decode cX4_setNext 71 = .ok (.goto 93, 3) := by decide +kernel
theorem dX4_setNext_0 : decode cX4_setNext 0 = .ok (.aload_n 1, 1) := by decide +kernel
theorem dX4_setNext_1 : decode cX4_setNext 1 = .ok (.aload_n 0, 1) := by decide +kernel
theorem dX4_setNext_2 : decode cX4_setNext 2 = .ok (.getfield 9, 3) := by decide +kernel
theorem dX4_setNext_5 : decode cX4_setNext 5 = .ok (.iload_n 2, 1) := by decide +kernel
theorem dX4_setNext_6 : decode cX4_setNext 6 = .ok (.iaload, 1) := by decide +kernel
theorem kw_3_216 : Cond.methodLink RX4 119 yX3_boothNumbered ∈ gw := gw_t3 (List.mem_of_getElem? (i := 216) (by decide +kernel)) (by decide +kernel)
theorem gk_X4_119 : GoodIn gw (wsV RX4 119 RX3 yX3_boothNumbered (.code yX3_boothNumbered cX3_boothNumbered 2 (some (.object "IceFair$Booth")) :: gw)) ∧ (yX3_boothNumbered.cls = RX3 ∧ yX3_boothNumbered.cls ≠ "java/lang/invoke/MethodHandle" ∧ yX3_boothNumbered.cls ≠ "java/lang/invoke/VarHandle" ∧ (parseMethodDescriptor yX3_boothNumbered.desc).map (fun d => d.parameters.length) = some 1) := ⟨gi_V kw_3_216 kw_3_32 kw_3_33 kw_1_6 kw_3_34, by decide +kernel⟩
theorem dX4_setNext_7 : decode cX4_setNext 7 = .ok (.invokevirtual 119, 3) := by decide +kernel
theorem dX4_setNext_10 : decode cX4_setNext 10 = .ok (.astore_n 3, 1) := by decide +kernel
theorem dX4_setNext_11 : decode cX4_setNext 11 = .ok (.aload_n 3, 1) := by decide +kernel
theorem dX4_setNext_12 : decode cX4_setNext 12 = .ok (.ifnonnull 5, 3) := by decide +kernel
theorem dX4_setNext_15 : decode cX4_setNext 15 = .ok (.iconst 0, 1) := by decide +kernel
theorem dX4_setNext_16 : decode cX4_setNext 16 = .ok (.ireturn, 1) := by decide +kernel
theorem dX4_setNext_17 : decode cX4_setNext 17 = .ok (.iconst 0, 1) := by decide +kernel
theorem dX4_setNext_18 : decode cX4_setNext 18 = .ok (.aload_n 0, 1) := by decide +kernel
theorem dX4_setNext_19 : decode cX4_setNext 19 = .ok (.getfield 25, 3) := by decide +kernel
theorem dX4_setNext_22 : decode cX4_setNext 22 = .ok (.iload_n 2, 1) := by decide +kernel
theorem dX4_setNext_23 : decode cX4_setNext 23 = .ok (.iaload, 1) := by decide +kernel
theorem dX4_setNext_24 : decode cX4_setNext 24 = .ok (.iconst 1, 1) := by decide +kernel
theorem dX4_setNext_25 : decode cX4_setNext 25 = .ok (.iadd, 1) := by decide +kernel
theorem kw_3_217 : Cond.methodLink RX4 123 Lib.Math.max.name ∈ gw := gw_t3 (List.mem_of_getElem? (i := 217) (by decide +kernel)) (by decide +kernel)
theorem dX4_setNext_26 : decode cX4_setNext 26 = .ok (.invokestatic 123, 3) := by decide +kernel
theorem dX4_setNext_29 : decode cX4_setNext 29 = .ok (.istore 4, 2) := by decide +kernel
theorem dX4_setNext_94 : decode cX4_setNext 94 = .ok (.iconst 0, 1) := by decide +kernel
theorem dX4_setNext_95 : decode cX4_setNext 95 = .ok (.ireturn, 1) := by decide +kernel
theorem dX4_setNext_135 : decode cX4_setNext 135 = .ok (.aload_n 0, 1) := by decide +kernel
theorem dX4_setNext_136 : decode cX4_setNext 136 = .ok (.getfield 25, 3) := by decide +kernel
theorem dX4_setNext_139 : decode cX4_setNext 139 = .ok (.iload_n 2, 1) := by decide +kernel
theorem dX4_setNext_140 : decode cX4_setNext 140 = .ok (.iload 4, 2) := by decide +kernel
theorem dX4_setNext_142 : decode cX4_setNext 142 = .ok (.iastore, 1) := by decide +kernel
theorem dX4_setNext_143 : decode cX4_setNext 143 = .ok (.aload_n 1, 1) := by decide +kernel
theorem dX4_setNext_144 : decode cX4_setNext 144 = .ok (.aload_n 3, 1) := by decide +kernel
theorem dX4_setNext_145 : decode cX4_setNext 145 = .ok (.aload_n 0, 1) := by decide +kernel
theorem dX4_setNext_146 : decode cX4_setNext 146 = .ok (.getfield 15, 3) := by decide +kernel
theorem dX4_setNext_149 : decode cX4_setNext 149 = .ok (.iload 4, 2) := by decide +kernel
theorem dX4_setNext_151 : decode cX4_setNext 151 = .ok (.iaload, 1) := by decide +kernel
theorem dX4_setNext_152 : decode cX4_setNext 152 = .ok (.aload_n 0, 1) := by decide +kernel
theorem dX4_setNext_153 : decode cX4_setNext 153 = .ok (.getfield 18, 3) := by decide +kernel
theorem dX4_setNext_156 : decode cX4_setNext 156 = .ok (.iload 4, 2) := by decide +kernel
theorem dX4_setNext_158 : decode cX4_setNext 158 = .ok (.iaload, 1) := by decide +kernel
theorem kw_3_219 : Cond.methodLink RX4 133 yX3_put ∈ gw := gw_t3 (List.mem_of_getElem? (i := 219) (by decide +kernel)) (by decide +kernel)
theorem kw_3_93 : Cond.instanceMethod yX3_put ∈ gw := gw_t3 (List.mem_of_getElem? (i := 93) (by decide +kernel)) (by decide +kernel)
theorem kw_3_94 : Cond.selects RX3 yX3_put yX3_put ∈ gw := gw_t3 (List.mem_of_getElem? (i := 94) (by decide +kernel)) (by decide +kernel)
theorem kw_3_95 : Cond.code yX3_put cX3_put 4 none ∈ gw := gw_t3 (List.mem_of_getElem? (i := 95) (by decide +kernel)) (by decide +kernel)
theorem gk_X4_133 : GoodIn gw (wsV RX4 133 RX3 yX3_put (.code yX3_put cX3_put 4 none :: gw)) ∧ (yX3_put.cls = RX3 ∧ yX3_put.cls ≠ "java/lang/invoke/MethodHandle" ∧ yX3_put.cls ≠ "java/lang/invoke/VarHandle" ∧ (parseMethodDescriptor yX3_put.desc).map (fun d => d.parameters.length) = some 3) := ⟨gi_V kw_3_219 kw_3_93 kw_3_94 kw_1_6 kw_3_95, by decide +kernel⟩
theorem dX4_setNext_159 : decode cX4_setNext 159 = .ok (.invokevirtual 133, 3) := by decide +kernel
theorem dX4_setNext_162 : decode cX4_setNext 162 = .ok (.iconst 1, 1) := by decide +kernel
theorem dX4_setNext_163 : decode cX4_setNext 163 = .ok (.ireturn, 1) := by decide +kernel
theorem dX4_setNext_170 : decode cX4_setNext 170 = .ok (.iconst 0, 1) := by decide +kernel
theorem dX4_setNext_171 : decode cX4_setNext 171 = .ok (.ireturn, 1) := by decide +kernel
theorem dX4_takeBack_0 : decode cX4_takeBack 0 = .ok (.aload_n 1, 1) := by decide +kernel
theorem dX4_takeBack_1 : decode cX4_takeBack 1 = .ok (.aload_n 0, 1) := by decide +kernel
theorem dX4_takeBack_2 : decode cX4_takeBack 2 = .ok (.getfield 9, 3) := by decide +kernel
theorem dX4_takeBack_5 : decode cX4_takeBack 5 = .ok (.iload_n 2, 1) := by decide +kernel
theorem dX4_takeBack_6 : decode cX4_takeBack 6 = .ok (.iaload, 1) := by decide +kernel
theorem dX4_takeBack_7 : decode cX4_takeBack 7 = .ok (.invokevirtual 119, 3) := by decide +kernel
theorem dX4_takeBack_10 : decode cX4_takeBack 10 = .ok (.astore_n 3, 1) := by decide +kernel
theorem dX4_takeBack_11 : decode cX4_takeBack 11 = .ok (.aload_n 3, 1) := by decide +kernel
theorem dX4_takeBack_12 : decode cX4_takeBack 12 = .ok (.ifnull 9, 3) := by decide +kernel
theorem dX4_takeBack_21 : decode cX4_takeBack 21 = .ok (.return_, 1) := by decide +kernel
theorem dX4_takeBack_15 : decode cX4_takeBack 15 = .ok (.aload_n 1, 1) := by decide +kernel
theorem dX4_takeBack_16 : decode cX4_takeBack 16 = .ok (.aload_n 3, 1) := by decide +kernel
theorem dX4_takeBack_17 : decode cX4_takeBack 17 = .ok (.iconst 0, 1) := by decide +kernel
theorem kw_3_224 : Cond.methodLink RX4 137 yX3_lift ∈ gw := gw_t3 (List.mem_of_getElem? (i := 224) (by decide +kernel)) (by decide +kernel)
theorem gk_X4_137 : GoodIn gw (wsV RX4 137 RX3 yX3_lift (.code yX3_lift cX3_lift 3 none :: gw)) ∧ (yX3_lift.cls = RX3 ∧ yX3_lift.cls ≠ "java/lang/invoke/MethodHandle" ∧ yX3_lift.cls ≠ "java/lang/invoke/VarHandle" ∧ (parseMethodDescriptor yX3_lift.desc).map (fun d => d.parameters.length) = some 2) := ⟨gi_V kw_3_224 kw_3_119 kw_3_120 kw_1_6 kw_3_121, by decide +kernel⟩
theorem dX4_takeBack_18 : decode cX4_takeBack 18 = .ok (.invokevirtual 137, 3) := by decide +kernel
theorem dX4_takeBackAll_2 : decode cX4_takeBackAll 2 = .ok (.iload_n 2, 1) := by decide +kernel
theorem dX4_takeBackAll_3 : decode cX4_takeBackAll 3 = .ok (.aload_n 0, 1) := by decide +kernel
theorem dX4_takeBackAll_4 : decode cX4_takeBackAll 4 = .ok (.getfield 75, 3) := by decide +kernel
theorem dX4_takeBackAll_7 : decode cX4_takeBackAll 7 = .ok (.if_icmp .ge 21, 3) := by decide +kernel
theorem dX4_takeBackAll_10 : decode cX4_takeBackAll 10 = .ok (.iload_n 2, 1) := by decide +kernel
theorem dX4_takeBackAll_11 : decode cX4_takeBackAll 11 = .ok (.bipush 10, 2) := by decide +kernel
theorem dX4_takeBackAll_13 : decode cX4_takeBackAll 13 = .ok (.if_icmp .ge 15, 3) := by decide +kernel
theorem dX4_takeBackAll_16 : decode cX4_takeBackAll 16 = .ok (.aload_n 0, 1) := by decide +kernel
theorem dX4_takeBackAll_17 : decode cX4_takeBackAll 17 = .ok (.aload_n 1, 1) := by decide +kernel
theorem dX4_takeBackAll_18 : decode cX4_takeBackAll 18 = .ok (.iload_n 2, 1) := by decide +kernel
theorem kw_3_220 : Cond.methodLink RX4 115 yX4_takeBack ∈ gw := gw_t3 (List.mem_of_getElem? (i := 220) (by decide +kernel)) (by decide +kernel)
theorem kw_3_222 : Cond.instanceMethod yX4_takeBack ∈ gw := gw_t3 (List.mem_of_getElem? (i := 222) (by decide +kernel)) (by decide +kernel)
theorem ks_2_3 : Cond.selects RX4 yX4_takeBack yX4_takeBack ∈ gw := gw_s (y := yX4_takeBack) (n := 9) (List.mem_append_right _ (List.mem_append_left _ (List.mem_of_getElem? (i := 3) (by decide +kernel))))
theorem kw_3_223 : Cond.code yX4_takeBack cX4_takeBack 4 none ∈ gw := gw_t3 (List.mem_of_getElem? (i := 223) (by decide +kernel)) (by decide +kernel)
theorem gk_X4_115 : GoodIn gw (wsV RX4 115 RX4 yX4_takeBack (.code yX4_takeBack cX4_takeBack 4 none :: gw)) ∧ (yX4_takeBack.cls = RX4 ∧ yX4_takeBack.cls ≠ "java/lang/invoke/MethodHandle" ∧ yX4_takeBack.cls ≠ "java/lang/invoke/VarHandle" ∧ (parseMethodDescriptor yX4_takeBack.desc).map (fun d => d.parameters.length) = some 2) := ⟨gi_V kw_3_220 kw_3_222 ks_2_3 kw_1_9 kw_3_223, by decide +kernel⟩
theorem dX4_takeBackAll_19 : decode cX4_takeBackAll 19 = .ok (.invokevirtual 115, 3) := by decide +kernel
theorem dX4_takeBackAll_22 : decode cX4_takeBackAll 22 = .ok (.iinc 2 1, 3) := by decide +kernel
theorem dX4_takeBackAll_25 : decode cX4_takeBackAll 25 = .ok (.goto (-23), 3) := by decide +kernel
theorem dX4_takeBackAll_0 : decode cX4_takeBackAll 0 = .ok (.iconst 0, 1) := by decide +kernel
theorem dX4_takeBackAll_1 : decode cX4_takeBackAll 1 = .ok (.istore_n 2, 1) := by decide +kernel
theorem dX4_takeBackAll_28 : decode cX4_takeBackAll 28 = .ok (.return_, 1) := by decide +kernel
theorem dX4_takeFees_2 : decode cX4_takeFees 2 = .ok (.iload_n 2, 1) := by decide +kernel
theorem dX4_takeFees_3 : decode cX4_takeFees 3 = .ok (.aload_n 0, 1) := by decide +kernel
theorem dX4_takeFees_4 : decode cX4_takeFees 4 = .ok (.getfield 75, 3) := by decide +kernel
theorem dX4_takeFees_7 : decode cX4_takeFees 7 = .ok (.if_icmp .ge 36, 3) := by decide +kernel
theorem dX4_takeFees_10 : decode cX4_takeFees 10 = .ok (.iload_n 2, 1) := by decide +kernel
theorem dX4_takeFees_11 : decode cX4_takeFees 11 = .ok (.bipush 10, 2) := by decide +kernel
theorem dX4_takeFees_13 : decode cX4_takeFees 13 = .ok (.if_icmp .ge 30, 3) := by decide +kernel
theorem dX4_takeFees_16 : decode cX4_takeFees 16 = .ok (.aload_n 1, 1) := by decide +kernel
theorem dX4_takeFees_17 : decode cX4_takeFees 17 = .ok (.aload_n 0, 1) := by decide +kernel
theorem dX4_takeFees_18 : decode cX4_takeFees 18 = .ok (.getfield 9, 3) := by decide +kernel
theorem dX4_takeFees_21 : decode cX4_takeFees 21 = .ok (.iload_n 2, 1) := by decide +kernel
theorem dX4_takeFees_22 : decode cX4_takeFees 22 = .ok (.iaload, 1) := by decide +kernel
theorem dX4_takeFees_23 : decode cX4_takeFees 23 = .ok (.invokevirtual 119, 3) := by decide +kernel
theorem dX4_takeFees_26 : decode cX4_takeFees 26 = .ok (.astore_n 3, 1) := by decide +kernel
theorem dX4_takeFees_27 : decode cX4_takeFees 27 = .ok (.aload_n 3, 1) := by decide +kernel
theorem dX4_takeFees_28 : decode cX4_takeFees 28 = .ok (.ifnull 9, 3) := by decide +kernel
theorem dX4_takeFees_37 : decode cX4_takeFees 37 = .ok (.iinc 2 1, 3) := by decide +kernel
theorem dX4_takeFees_40 : decode cX4_takeFees 40 = .ok (.goto (-38), 3) := by decide +kernel
theorem dX4_takeFees_31 : decode cX4_takeFees 31 = .ok (.aload_n 1, 1) := by decide +kernel
theorem dX4_takeFees_32 : decode cX4_takeFees 32 = .ok (.aload_n 3, 1) := by decide +kernel
theorem kw_3_233 : Cond.methodLink RX4 141 yX3_takeFee ∈ gw := gw_t3 (List.mem_of_getElem? (i := 233) (by decide +kernel)) (by decide +kernel)
theorem kw_3_103 : Cond.instanceMethod yX3_takeFee ∈ gw := gw_t3 (List.mem_of_getElem? (i := 103) (by decide +kernel)) (by decide +kernel)
theorem kw_3_104 : Cond.selects RX3 yX3_takeFee yX3_takeFee ∈ gw := gw_t3 (List.mem_of_getElem? (i := 104) (by decide +kernel)) (by decide +kernel)
theorem kw_3_105 : Cond.code yX3_takeFee cX3_takeFee 3 (some .int) ∈ gw := gw_t3 (List.mem_of_getElem? (i := 105) (by decide +kernel)) (by decide +kernel)
theorem gk_X4_141 : GoodIn gw (wsV RX4 141 RX3 yX3_takeFee (.code yX3_takeFee cX3_takeFee 3 (some .int) :: gw)) ∧ (yX3_takeFee.cls = RX3 ∧ yX3_takeFee.cls ≠ "java/lang/invoke/MethodHandle" ∧ yX3_takeFee.cls ≠ "java/lang/invoke/VarHandle" ∧ (parseMethodDescriptor yX3_takeFee.desc).map (fun d => d.parameters.length) = some 1) := ⟨gi_V kw_3_233 kw_3_103 kw_3_104 kw_1_6 kw_3_105, by decide +kernel⟩
theorem dX4_takeFees_33 : decode cX4_takeFees 33 = .ok (.invokevirtual 141, 3) := by decide +kernel
theorem dX4_takeFees_36 : decode cX4_takeFees 36 = .ok (.pop, 1) := by decide +kernel
theorem dX4_takeFees_0 : decode cX4_takeFees 0 = .ok (.iconst 0, 1) := by decide +kernel
theorem dX4_takeFees_1 : decode cX4_takeFees 1 = .ok (.istore_n 2, 1) := by decide +kernel
theorem dX4_takeFees_43 : decode cX4_takeFees 43 = .ok (.return_, 1) := by decide +kernel
theorem dX4_findRow_11 : decode cX4_findRow 11 = .ok (.iload_n 3, 1) := by decide +kernel
theorem kw_3_211 : Cond.constant RX4 110 40100 ∈ gw := gw_t3 (List.mem_of_getElem? (i := 211) (by decide +kernel)) (by decide +kernel)
theorem dX4_findRow_12 : decode cX4_findRow 12 = .ok (.ldc 110, 2) := by decide +kernel
theorem dX4_findRow_14 : decode cX4_findRow 14 = .ok (.if_icmp .ge 76, 3) := by decide +kernel
theorem dX4_findRow_17 : decode cX4_findRow 17 = .ok (.iload_n 2, 1) := by decide +kernel
theorem dX4_findRow_18 : decode cX4_findRow 18 = .ok (.aload_n 0, 1) := by decide +kernel
theorem dX4_findRow_19 : decode cX4_findRow 19 = .ok (.getfield 75, 3) := by decide +kernel
theorem dX4_findRow_22 : decode cX4_findRow 22 = .ok (.if_icmp .ge 68, 3) := by decide +kernel
theorem dX4_findRow_25 : decode cX4_findRow 25 = .ok (.iload_n 2, 1) := by decide +kernel
theorem dX4_findRow_26 : decode cX4_findRow 26 = .ok (.bipush 10, 2) := by decide +kernel
theorem dX4_findRow_28 : decode cX4_findRow 28 = .ok (.if_icmp .ge 62, 3) := by decide +kernel
theorem dX4_findRow_31 : decode cX4_findRow 31 = .ok (.aload_n 0, 1) := by decide +kernel
theorem dX4_findRow_32 : decode cX4_findRow 32 = .ok (.aload_n 1, 1) := by decide +kernel
theorem dX4_findRow_33 : decode cX4_findRow 33 = .ok (.iload_n 2, 1) := by decide +kernel
theorem kw_3_212 : Cond.methodLink RX4 111 yX4_setNext ∈ gw := gw_t3 (List.mem_of_getElem? (i := 212) (by decide +kernel)) (by decide +kernel)
theorem kw_3_214 : Cond.instanceMethod yX4_setNext ∈ gw := gw_t3 (List.mem_of_getElem? (i := 214) (by decide +kernel)) (by decide +kernel)
theorem ks_2_2 : Cond.selects RX4 yX4_setNext yX4_setNext ∈ gw := gw_s (y := yX4_setNext) (n := 9) (List.mem_append_right _ (List.mem_append_left _ (List.mem_of_getElem? (i := 2) (by decide +kernel))))
theorem kw_3_215 : Cond.code yX4_setNext cX4_setNext 5 (some .boolean) ∈ gw := gw_t3 (List.mem_of_getElem? (i := 215) (by decide +kernel)) (by decide +kernel)
theorem gk_X4_111 : GoodIn gw (wsV RX4 111 RX4 yX4_setNext (.code yX4_setNext cX4_setNext 5 (some .boolean) :: gw)) ∧ (yX4_setNext.cls = RX4 ∧ yX4_setNext.cls ≠ "java/lang/invoke/MethodHandle" ∧ yX4_setNext.cls ≠ "java/lang/invoke/VarHandle" ∧ (parseMethodDescriptor yX4_setNext.desc).map (fun d => d.parameters.length) = some 2) := ⟨gi_V kw_3_212 kw_3_214 ks_2_2 kw_1_9 kw_3_215, by decide +kernel⟩
theorem dX4_findRow_34 : decode cX4_findRow 34 = .ok (.invokevirtual 111, 3) := by decide +kernel
theorem dX4_findRow_37 : decode cX4_findRow 37 = .ok (.ifCond .eq 22, 3) := by decide +kernel
theorem dX4_findRow_59 : decode cX4_findRow 59 = .ok (.iinc 2 (-1), 3) := by decide +kernel
theorem dX4_findRow_62 : decode cX4_findRow 62 = .ok (.iload_n 2, 1) := by decide +kernel
theorem dX4_findRow_63 : decode cX4_findRow 63 = .ok (.ifCond .lt 13, 3) := by decide +kernel
theorem dX4_findRow_66 : decode cX4_findRow 66 = .ok (.aload_n 0, 1) := by decide +kernel
theorem dX4_findRow_67 : decode cX4_findRow 67 = .ok (.getfield 28, 3) := by decide +kernel
theorem dX4_findRow_70 : decode cX4_findRow 70 = .ok (.sipush 20000, 3) := by decide +kernel
theorem dX4_findRow_73 : decode cX4_findRow 73 = .ok (.if_icmp .le 5, 3) := by decide +kernel
theorem dX4_findRow_78 : decode cX4_findRow 78 = .ok (.aload_n 0, 1) := by decide +kernel
theorem dX4_findRow_79 : decode cX4_findRow 79 = .ok (.aload_n 1, 1) := by decide +kernel
theorem dX4_findRow_80 : decode cX4_findRow 80 = .ok (.iload_n 2, 1) := by decide +kernel
theorem dX4_findRow_81 : decode cX4_findRow 81 = .ok (.invokevirtual 115, 3) := by decide +kernel
theorem dX4_findRow_84 : decode cX4_findRow 84 = .ok (.iinc 3 1, 3) := by decide +kernel
theorem dX4_findRow_87 : decode cX4_findRow 87 = .ok (.goto (-76), 3) := by decide +kernel
theorem dX4_findRow_40 : decode cX4_findRow 40 = .ok (.iinc 2 1, 3) := by decide +kernel
theorem dX4_findRow_43 : decode cX4_findRow 43 = .ok (.iload_n 2, 1) := by decide +kernel
theorem dX4_findRow_44 : decode cX4_findRow 44 = .ok (.bipush 10, 2) := by decide +kernel
theorem dX4_findRow_46 : decode cX4_findRow 46 = .ok (.if_icmp .ge 38, 3) := by decide +kernel
theorem dX4_findRow_49 : decode cX4_findRow 49 = .ok (.aload_n 0, 1) := by decide +kernel
theorem dX4_findRow_50 : decode cX4_findRow 50 = .ok (.getfield 25, 3) := by decide +kernel
theorem dX4_findRow_53 : decode cX4_findRow 53 = .ok (.iload_n 2, 1) := by decide +kernel
theorem dX4_findRow_54 : decode cX4_findRow 54 = .ok (.iconst (-1), 1) := by decide +kernel
theorem dX4_findRow_55 : decode cX4_findRow 55 = .ok (.iastore, 1) := by decide +kernel
theorem dX4_findRow_56 : decode cX4_findRow 56 = .ok (.goto 28, 3) := by decide +kernel
theorem dX4_findRow_0 : decode cX4_findRow 0 = .ok (.iconst 0, 1) := by decide +kernel
theorem dX4_findRow_1 : decode cX4_findRow 1 = .ok (.istore_n 2, 1) := by decide +kernel
theorem dX4_findRow_2 : decode cX4_findRow 2 = .ok (.aload_n 0, 1) := by decide +kernel
theorem dX4_findRow_3 : decode cX4_findRow 3 = .ok (.getfield 25, 3) := by decide +kernel
theorem dX4_findRow_6 : decode cX4_findRow 6 = .ok (.iconst 0, 1) := by decide +kernel
theorem dX4_findRow_7 : decode cX4_findRow 7 = .ok (.iconst (-1), 1) := by decide +kernel
theorem dX4_findRow_8 : decode cX4_findRow 8 = .ok (.iastore, 1) := by decide +kernel
theorem dX4_findRow_9 : decode cX4_findRow 9 = .ok (.iconst 0, 1) := by decide +kernel
theorem dX4_findRow_10 : decode cX4_findRow 10 = .ok (.istore_n 3, 1) := by decide +kernel
theorem dX4_findRow_76 : decode cX4_findRow 76 = .ok (.iconst 0, 1) := by decide +kernel
theorem dX4_findRow_77 : decode cX4_findRow 77 = .ok (.ireturn, 1) := by decide +kernel
theorem dX4_findRow_90 : decode cX4_findRow 90 = .ok (.iload_n 2, 1) := by decide +kernel
theorem dX4_findRow_91 : decode cX4_findRow 91 = .ok (.aload_n 0, 1) := by decide +kernel
theorem dX4_findRow_92 : decode cX4_findRow 92 = .ok (.getfield 75, 3) := by decide +kernel
theorem dX4_findRow_95 : decode cX4_findRow 95 = .ok (.if_icmp .lt 7, 3) := by decide +kernel
theorem dX4_findRow_102 : decode cX4_findRow 102 = .ok (.iconst 0, 1) := by decide +kernel
theorem dX4_findRow_103 : decode cX4_findRow 103 = .ok (.ireturn, 1) := by decide +kernel
theorem dX4_findRow_98 : decode cX4_findRow 98 = .ok (.iconst 1, 1) := by decide +kernel
theorem dX4_findRow_99 : decode cX4_findRow 99 = .ok (.goto 4, 3) := by decide +kernel
theorem dX4_layAll_0 : decode cX4_layAll 0 = .ok (.aload_n 0, 1) := by decide +kernel
theorem dX4_layAll_1 : decode cX4_layAll 1 = .ok (.iconst 0, 1) := by decide +kernel
theorem dX4_layAll_2 : decode cX4_layAll 2 = .ok (.putfield 28, 3) := by decide +kernel
theorem dX4_layAll_5 : decode cX4_layAll 5 = .ok (.aload_n 0, 1) := by decide +kernel
theorem dX4_layAll_6 : decode cX4_layAll 6 = .ok (.aload_n 1, 1) := by decide +kernel
theorem kw_3_194 : Cond.methodLink RX4 32 yX4_gatherWaiting ∈ gw := gw_t3 (List.mem_of_getElem? (i := 194) (by decide +kernel)) (by decide +kernel)
theorem kw_3_196 : Cond.instanceMethod yX4_gatherWaiting ∈ gw := gw_t3 (List.mem_of_getElem? (i := 196) (by decide +kernel)) (by decide +kernel)
theorem ks_1_15 : Cond.selects RX4 yX4_gatherWaiting yX4_gatherWaiting ∈ gw := gw_s (y := yX4_gatherWaiting) (n := 9) (List.mem_append_left _ (List.mem_of_getElem? (i := 15) (by decide +kernel)))
theorem kw_3_197 : Cond.code yX4_gatherWaiting cX4_gatherWaiting 3 none ∈ gw := gw_t3 (List.mem_of_getElem? (i := 197) (by decide +kernel)) (by decide +kernel)
theorem gk_X4_32 : GoodIn gw (wsV RX4 32 RX4 yX4_gatherWaiting (.code yX4_gatherWaiting cX4_gatherWaiting 3 none :: gw)) ∧ (yX4_gatherWaiting.cls = RX4 ∧ yX4_gatherWaiting.cls ≠ "java/lang/invoke/MethodHandle" ∧ yX4_gatherWaiting.cls ≠ "java/lang/invoke/VarHandle" ∧ (parseMethodDescriptor yX4_gatherWaiting.desc).map (fun d => d.parameters.length) = some 1) := ⟨gi_V kw_3_194 kw_3_196 ks_1_15 kw_1_9 kw_3_197, by decide +kernel⟩
theorem dX4_layAll_7 : decode cX4_layAll 7 = .ok (.invokevirtual 32, 3) := by decide +kernel
theorem dX4_layAll_10 : decode cX4_layAll 10 = .ok (.aload_n 0, 1) := by decide +kernel
theorem dX4_layAll_11 : decode cX4_layAll 11 = .ok (.aload_n 1, 1) := by decide +kernel
theorem kw_3_198 : Cond.methodLink RX4 36 yX4_gatherOpen ∈ gw := gw_t3 (List.mem_of_getElem? (i := 198) (by decide +kernel)) (by decide +kernel)
theorem kw_3_200 : Cond.instanceMethod yX4_gatherOpen ∈ gw := gw_t3 (List.mem_of_getElem? (i := 200) (by decide +kernel)) (by decide +kernel)
theorem ks_2_0 : Cond.selects RX4 yX4_gatherOpen yX4_gatherOpen ∈ gw := gw_s (y := yX4_gatherOpen) (n := 9) (List.mem_append_right _ (List.mem_append_left _ (List.mem_of_getElem? (i := 0) (by decide +kernel))))
theorem kw_3_201 : Cond.code yX4_gatherOpen cX4_gatherOpen 4 none ∈ gw := gw_t3 (List.mem_of_getElem? (i := 201) (by decide +kernel)) (by decide +kernel)
theorem gk_X4_36 : GoodIn gw (wsV RX4 36 RX4 yX4_gatherOpen (.code yX4_gatherOpen cX4_gatherOpen 4 none :: gw)) ∧ (yX4_gatherOpen.cls = RX4 ∧ yX4_gatherOpen.cls ≠ "java/lang/invoke/MethodHandle" ∧ yX4_gatherOpen.cls ≠ "java/lang/invoke/VarHandle" ∧ (parseMethodDescriptor yX4_gatherOpen.desc).map (fun d => d.parameters.length) = some 1) := ⟨gi_V kw_3_198 kw_3_200 ks_2_0 kw_1_9 kw_3_201, by decide +kernel⟩
theorem dX4_layAll_12 : decode cX4_layAll 12 = .ok (.invokevirtual 36, 3) := by decide +kernel
theorem dX4_layAll_15 : decode cX4_layAll 15 = .ok (.aload_n 0, 1) := by decide +kernel
theorem dX4_layAll_16 : decode cX4_layAll 16 = .ok (.aload_n 1, 1) := by decide +kernel
theorem dX4_layAll_17 : decode cX4_layAll 17 = .ok (.getfield 39, 3) := by decide +kernel
theorem dX4_layAll_20 : decode cX4_layAll 20 = .ok (.aload_n 1, 1) := by decide +kernel
theorem dX4_layAll_21 : decode cX4_layAll 21 = .ok (.getfield 45, 3) := by decide +kernel
theorem kw_3_205 : Cond.methodLink RX4 49 yX1_bear ∈ gw := gw_t3 (List.mem_of_getElem? (i := 205) (by decide +kernel)) (by decide +kernel)
theorem gk_X4_49 : GoodIn gw (wsV RX4 49 RX1 yX1_bear (.code yX1_bear cX1_bear 1 (some .int) :: gw)) ∧ (yX1_bear.cls = RX1 ∧ yX1_bear.cls ≠ "java/lang/invoke/MethodHandle" ∧ yX1_bear.cls ≠ "java/lang/invoke/VarHandle" ∧ (parseMethodDescriptor yX1_bear.desc).map (fun d => d.parameters.length) = some 0) := ⟨gi_V kw_3_205 kw_3_56 kw_3_57 kw_1_4 kw_3_58, by decide +kernel⟩
theorem dX4_layAll_24 : decode cX4_layAll 24 = .ok (.invokevirtual 49, 3) := by decide +kernel
theorem kw_3_206 : Cond.methodLink RX4 55 yX6_bearsAll ∈ gw := gw_t3 (List.mem_of_getElem? (i := 206) (by decide +kernel)) (by decide +kernel)
theorem gk_X4_55 : GoodIn gw (wsV RX4 55 RX6 yX6_bearsAll (.code yX6_bearsAll cX6_bearsAll 5 (some .boolean) :: gw)) ∧ (yX6_bearsAll.cls = RX6 ∧ yX6_bearsAll.cls ≠ "java/lang/invoke/MethodHandle" ∧ yX6_bearsAll.cls ≠ "java/lang/invoke/VarHandle" ∧ (parseMethodDescriptor yX6_bearsAll.desc).map (fun d => d.parameters.length) = some 1) := ⟨gi_V kw_3_206 kw_3_60 kw_3_61 kw_1_7 kw_3_62, by decide +kernel⟩
theorem dX4_layAll_27 : decode cX4_layAll 27 = .ok (.invokevirtual 55, 3) := by decide +kernel
theorem dX4_layAll_30 : decode cX4_layAll 30 = .ok (.putfield 61, 3) := by decide +kernel
theorem dX4_layAll_33 : decode cX4_layAll 33 = .ok (.aload_n 0, 1) := by decide +kernel
theorem dX4_layAll_34 : decode cX4_layAll 34 = .ok (.aload_n 1, 1) := by decide +kernel
theorem kw_3_207 : Cond.methodLink RX4 65 yX4_findRow ∈ gw := gw_t3 (List.mem_of_getElem? (i := 207) (by decide +kernel)) (by decide +kernel)
theorem kw_3_209 : Cond.instanceMethod yX4_findRow ∈ gw := gw_t3 (List.mem_of_getElem? (i := 209) (by decide +kernel)) (by decide +kernel)
theorem ks_2_1 : Cond.selects RX4 yX4_findRow yX4_findRow ∈ gw := gw_s (y := yX4_findRow) (n := 9) (List.mem_append_right _ (List.mem_append_left _ (List.mem_of_getElem? (i := 1) (by decide +kernel))))
theorem kw_3_210 : Cond.code yX4_findRow cX4_findRow 4 (some .boolean) ∈ gw := gw_t3 (List.mem_of_getElem? (i := 210) (by decide +kernel)) (by decide +kernel)
theorem gk_X4_65 : GoodIn gw (wsV RX4 65 RX4 yX4_findRow (.code yX4_findRow cX4_findRow 4 (some .boolean) :: gw)) ∧ (yX4_findRow.cls = RX4 ∧ yX4_findRow.cls ≠ "java/lang/invoke/MethodHandle" ∧ yX4_findRow.cls ≠ "java/lang/invoke/VarHandle" ∧ (parseMethodDescriptor yX4_findRow.desc).map (fun d => d.parameters.length) = some 1) := ⟨gi_V kw_3_207 kw_3_209 ks_2_1 kw_1_9 kw_3_210, by decide +kernel⟩
theorem dX4_layAll_35 : decode cX4_layAll 35 = .ok (.invokevirtual 65, 3) := by decide +kernel
theorem dX4_layAll_38 : decode cX4_layAll 38 = .ok (.ifCond .ne 25, 3) := by decide +kernel
theorem dX4_layAll_63 : decode cX4_layAll 63 = .ok (.aload_n 0, 1) := by decide +kernel
theorem dX4_layAll_64 : decode cX4_layAll 64 = .ok (.aload_n 1, 1) := by decide +kernel
theorem kw_3_229 : Cond.methodLink RX4 72 yX4_takeFees ∈ gw := gw_t3 (List.mem_of_getElem? (i := 229) (by decide +kernel)) (by decide +kernel)
theorem kw_3_231 : Cond.instanceMethod yX4_takeFees ∈ gw := gw_t3 (List.mem_of_getElem? (i := 231) (by decide +kernel)) (by decide +kernel)
theorem ks_2_5 : Cond.selects RX4 yX4_takeFees yX4_takeFees ∈ gw := gw_s (y := yX4_takeFees) (n := 9) (List.mem_append_right _ (List.mem_append_left _ (List.mem_of_getElem? (i := 5) (by decide +kernel))))
theorem kw_3_232 : Cond.code yX4_takeFees cX4_takeFees 4 none ∈ gw := gw_t3 (List.mem_of_getElem? (i := 232) (by decide +kernel)) (by decide +kernel)
theorem gk_X4_72 : GoodIn gw (wsV RX4 72 RX4 yX4_takeFees (.code yX4_takeFees cX4_takeFees 4 none :: gw)) ∧ (yX4_takeFees.cls = RX4 ∧ yX4_takeFees.cls ≠ "java/lang/invoke/MethodHandle" ∧ yX4_takeFees.cls ≠ "java/lang/invoke/VarHandle" ∧ (parseMethodDescriptor yX4_takeFees.desc).map (fun d => d.parameters.length) = some 1) := ⟨gi_V kw_3_229 kw_3_231 ks_2_5 kw_1_9 kw_3_232, by decide +kernel⟩
theorem dX4_layAll_65 : decode cX4_layAll 65 = .ok (.invokevirtual 72, 3) := by decide +kernel
theorem dX4_layAll_68 : decode cX4_layAll 68 = .ok (.aload_n 0, 1) := by decide +kernel
theorem dX4_layAll_69 : decode cX4_layAll 69 = .ok (.getfield 75, 3) := by decide +kernel
theorem dX4_layAll_72 : decode cX4_layAll 72 = .ok (.ireturn, 1) := by decide +kernel
theorem dX4_layAll_41 : decode cX4_layAll 41 = .ok (.aload_n 0, 1) := by decide +kernel
theorem dX4_layAll_42 : decode cX4_layAll 42 = .ok (.aload_n 1, 1) := by decide +kernel
theorem kw_3_225 : Cond.methodLink RX4 69 yX4_takeBackAll ∈ gw := gw_t3 (List.mem_of_getElem? (i := 225) (by decide +kernel)) (by decide +kernel)
theorem kw_3_227 : Cond.instanceMethod yX4_takeBackAll ∈ gw := gw_t3 (List.mem_of_getElem? (i := 227) (by decide +kernel)) (by decide +kernel)
theorem ks_2_4 : Cond.selects RX4 yX4_takeBackAll yX4_takeBackAll ∈ gw := gw_s (y := yX4_takeBackAll) (n := 9) (List.mem_append_right _ (List.mem_append_left _ (List.mem_of_getElem? (i := 4) (by decide +kernel))))
theorem kw_3_228 : Cond.code yX4_takeBackAll cX4_takeBackAll 3 none ∈ gw := gw_t3 (List.mem_of_getElem? (i := 228) (by decide +kernel)) (by decide +kernel)
theorem gk_X4_69 : GoodIn gw (wsV RX4 69 RX4 yX4_takeBackAll (.code yX4_takeBackAll cX4_takeBackAll 3 none :: gw)) ∧ (yX4_takeBackAll.cls = RX4 ∧ yX4_takeBackAll.cls ≠ "java/lang/invoke/MethodHandle" ∧ yX4_takeBackAll.cls ≠ "java/lang/invoke/VarHandle" ∧ (parseMethodDescriptor yX4_takeBackAll.desc).map (fun d => d.parameters.length) = some 1) := ⟨gi_V kw_3_225 kw_3_227 ks_2_4 kw_1_9 kw_3_228, by decide +kernel⟩
theorem dX4_layAll_43 : decode cX4_layAll 43 = .ok (.invokevirtual 69, 3) := by decide +kernel
theorem dX4_layAll_46 : decode cX4_layAll 46 = .ok (.aload_n 0, 1) := by decide +kernel
theorem dX4_layAll_47 : decode cX4_layAll 47 = .ok (.getfield 28, 3) := by decide +kernel
theorem dX4_layAll_50 : decode cX4_layAll 50 = .ok (.sipush 20000, 3) := by decide +kernel
theorem dX4_layAll_53 : decode cX4_layAll 53 = .ok (.if_icmp .le 8, 3) := by decide +kernel
theorem dX4_layAll_61 : decode cX4_layAll 61 = .ok (.iconst (-1), 1) := by decide +kernel
theorem dX4_layAll_62 : decode cX4_layAll 62 = .ok (.ireturn, 1) := by decide +kernel
theorem dX4_layAll_56 : decode cX4_layAll 56 = .ok (.bipush (-2), 2) := by decide +kernel
theorem dX4_layAll_58 : decode cX4_layAll 58 = .ok (.goto 4, 3) := by decide +kernel
