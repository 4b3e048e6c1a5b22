theorem dX3_hasFireNearerThan_3 : decode cX3_hasFireNearerThan 3 = .ok (.iload 4, 2) := by decide +kernel
theorem dX3_hasFireNearerThan_5 : decode cX3_hasFireNearerThan 5 = .ok (.aload_n 0, 1) := by decide +kernel
theorem dX3_hasFireNearerThan_6 : decode cX3_hasFireNearerThan 6 = .ok (.getfield 36, 3) := by decide +kernel
theorem dX3_hasFireNearerThan_9 : decode cX3_hasFireNearerThan 9 = .ok (.if_icmp .ge 71, 3) := by decide +kernel
theorem dX3_hasFireNearerThan_12 : decode cX3_hasFireNearerThan 12 = .ok (.iload 4, 2) := by decide +kernel
theorem dX3_hasFireNearerThan_14 : decode cX3_hasFireNearerThan 14 = .ok (.bipush 10, 2) := by decide +kernel
theorem dX3_hasFireNearerThan_16 : decode cX3_hasFireNearerThan 16 = .ok (.if_icmp .ge 64, 3) := by decide +kernel
theorem dX3_hasFireNearerThan_19 : decode cX3_hasFireNearerThan 19 = .ok (.aload_n 0, 1) := by decide +kernel
theorem dX3_hasFireNearerThan_20 : decode cX3_hasFireNearerThan 20 = .ok (.getfield 27, 3) := by decide +kernel
theorem dX3_hasFireNearerThan_23 : decode cX3_hasFireNearerThan 23 = .ok (.iload 4, 2) := by decide +kernel
theorem dX3_hasFireNearerThan_25 : decode cX3_hasFireNearerThan 25 = .ok (.aaload, 1) := by decide +kernel
theorem dX3_hasFireNearerThan_26 : decode cX3_hasFireNearerThan 26 = .ok (.astore 5, 2) := by decide +kernel
theorem dX3_hasFireNearerThan_28 : decode cX3_hasFireNearerThan 28 = .ok (.aload 5, 2) := by decide +kernel
theorem dX3_hasFireNearerThan_30 : decode cX3_hasFireNearerThan 30 = .ok (.getfield 59, 3) := by decide +kernel
theorem dX3_hasFireNearerThan_33 : decode cX3_hasFireNearerThan 33 = .ok (.iconst 1, 1) := by decide +kernel
theorem dX3_hasFireNearerThan_34 : decode cX3_hasFireNearerThan 34 = .ok (.if_icmp .ne 40, 3) := by decide +kernel
theorem dX3_hasFireNearerThan_74 : decode cX3_hasFireNearerThan 74 = .ok (.iinc 4 1, 3) := by decide +kernel
theorem dX3_hasFireNearerThan_77 : decode cX3_hasFireNearerThan 77 = .ok (.goto (-74), 3) := by decide +kernel
theorem dX3_hasFireNearerThan_37 : decode cX3_hasFireNearerThan 37 = .ok (.aload 5, 2) := by decide +kernel
theorem dX3_hasFireNearerThan_39 : decode cX3_hasFireNearerThan 39 = .ok (.getfield 52, 3) := by decide +kernel
theorem dX3_hasFireNearerThan_42 : decode cX3_hasFireNearerThan 42 = .ok (.ifCond .eq 32, 3) := by decide +kernel
theorem dX3_hasFireNearerThan_45 : decode cX3_hasFireNearerThan 45 = .ok (.aload 5, 2) := by decide +kernel
theorem dX3_hasFireNearerThan_47 : decode cX3_hasFireNearerThan 47 = .ok (.getfield 62, 3) := by decide +kernel
theorem dX3_hasFireNearerThan_50 : decode cX3_hasFireNearerThan 50 = .ok (.iload_n 2, 1) := by decide +kernel
theorem dX3_hasFireNearerThan_51 : decode cX3_hasFireNearerThan 51 = .ok (.isub, 1) := by decide +kernel
theorem kw_3_79 : Cond.methodLink RX3 101 Lib.Math.abs.name ∈ gw := gw_t3 (List.mem_of_getElem? (i := 79) (by decide +kernel)) (by decide +kernel)
theorem kw_3_80 : Cond.static Lib.Math.abs.name ∈ gw := gw_t3 (List.mem_of_getElem? (i := 80) (by decide +kernel)) (by decide +kernel)
theorem kw_3_81 : Cond.code Lib.Math.abs.name Lib.Math.abs.code 1 (some .int) ∈ gw := gw_t3 (List.mem_of_getElem? (i := 81) (by decide +kernel)) (by decide +kernel)
theorem dX3_hasFireNearerThan_52 : decode cX3_hasFireNearerThan 52 = .ok (.invokestatic 101, 3) := by decide +kernel
theorem dX3_hasFireNearerThan_55 : decode cX3_hasFireNearerThan 55 = .ok (.aload 5, 2) := by decide +kernel
theorem dX3_hasFireNearerThan_57 : decode cX3_hasFireNearerThan 57 = .ok (.getfield 65, 3) := by decide +kernel
theorem dX3_hasFireNearerThan_60 : decode cX3_hasFireNearerThan 60 = .ok (.iload_n 3, 1) := by decide +kernel
theorem dX3_hasFireNearerThan_61 : decode cX3_hasFireNearerThan 61 = .ok (.isub, 1) := by decide +kernel
theorem dX3_hasFireNearerThan_62 : decode cX3_hasFireNearerThan 62 = .ok (.invokestatic 101, 3) := by decide +kernel
theorem kw_3_82 : Cond.methodLink RX3 107 Lib.Math.max.name ∈ gw := gw_t3 (List.mem_of_getElem? (i := 82) (by decide +kernel)) (by decide +kernel)
theorem dX3_hasFireNearerThan_65 : decode cX3_hasFireNearerThan 65 = .ok (.invokestatic 107, 3) := by decide +kernel
theorem dX3_hasFireNearerThan_68 : decode cX3_hasFireNearerThan 68 = .ok (.iload_n 1, 1) := by decide +kernel
theorem dX3_hasFireNearerThan_69 : decode cX3_hasFireNearerThan 69 = .ok (.if_icmp .ge 5, 3) := by decide +kernel
theorem dX3_hasFireNearerThan_0 : decode cX3_hasFireNearerThan 0 = .ok (.iconst 0, 1) := by decide +kernel
theorem dX3_hasFireNearerThan_1 : decode cX3_hasFireNearerThan 1 = .ok (.istore 4, 2) := by decide +kernel
theorem dX3_hasFireNearerThan_72 : decode cX3_hasFireNearerThan 72 = .ok (.iconst 1, 1) := by decide +kernel
theorem dX3_hasFireNearerThan_73 : decode cX3_hasFireNearerThan 73 = .ok (.ireturn, 1) := by decide +kernel
theorem dX3_hasFireNearerThan_80 : decode cX3_hasFireNearerThan 80 = .ok (.iconst 0, 1) := by decide +kernel
theorem dX3_hasFireNearerThan_81 : decode cX3_hasFireNearerThan 81 = .ok (.ireturn, 1) := by decide +kernel
theorem dX3_suits_0 : decode cX3_suits 0 = .ok (.aload_n 1, 1) := by decide +kernel
theorem dX3_suits_1 : decode cX3_suits 1 = .ok (.getfield 52, 3) := by decide +kernel
theorem dX3_suits_4 : decode cX3_suits 4 = .ok (.ifCond .eq 19, 3) := by decide +kernel
theorem dX3_suits_23 : decode cX3_suits 23 = .ok (.aload_n 0, 1) := by decide +kernel
theorem dX3_suits_24 : decode cX3_suits 24 = .ok (.getfield 21, 3) := by decide +kernel
theorem dX3_suits_27 : decode cX3_suits 27 = .ok (.iload_n 2, 1) := by decide +kernel
theorem dX3_suits_28 : decode cX3_suits 28 = .ok (.iload_n 3, 1) := by decide +kernel
theorem dX3_suits_29 : decode cX3_suits 29 = .ok (.aload_n 1, 1) := by decide +kernel
theorem dX3_suits_30 : decode cX3_suits 30 = .ok (.getfield 49, 3) := by decide +kernel
theorem dX3_suits_33 : decode cX3_suits 33 = .ok (.aload_n 0, 1) := by decide +kernel
theorem dX3_suits_34 : decode cX3_suits 34 = .ok (.getfield 12, 3) := by decide +kernel
theorem kw_3_55 : Cond.methodLink RX3 80 yX1_bear ∈ gw := gw_t3 (List.mem_of_getElem? (i := 55) (by decide +kernel)) (by decide +kernel)
theorem kw_3_56 : Cond.instanceMethod yX1_bear ∈ gw := gw_t3 (List.mem_of_getElem? (i := 56) (by decide +kernel)) (by decide +kernel)
theorem kw_3_57 : Cond.selects RX1 yX1_bear yX1_bear ∈ gw := gw_t3 (List.mem_of_getElem? (i := 57) (by decide +kernel)) (by decide +kernel)
theorem kw_3_58 : Cond.code yX1_bear cX1_bear 1 (some .int) ∈ gw := gw_t3 (List.mem_of_getElem? (i := 58) (by decide +kernel)) (by decide +kernel)
theorem gk_X3_80 : GoodIn gw (wsV RX3 80 RX1 yX1_bear (.code yX1_bear cX1_bear 1 (some .int) :: gw)) ∧ (yX1_bear.cls = RX1 ∧ yX1_bear.cls ≠ "java/lang/invoke/MethodHandle" ∧ yX1_bear.cls ≠ "java/lang/invoke/VarHandle" ∧ (parseMethodDescriptor yX1_bear.desc).map (fun d => d.parameters.length) = some 0) := ⟨gi_V kw_3_55 kw_3_56 kw_3_57 kw_1_4 kw_3_58, by decide +kernel⟩
theorem dX3_suits_37 : decode cX3_suits 37 = .ok (.invokevirtual 80, 3) := by decide +kernel
theorem kw_3_85 : Cond.methodLink RX3 97 yX6_bearsAlso ∈ gw := gw_t3 (List.mem_of_getElem? (i := 85) (by decide +kernel)) (by decide +kernel)
theorem kw_3_86 : Cond.instanceMethod yX6_bearsAlso ∈ gw := gw_t3 (List.mem_of_getElem? (i := 86) (by decide +kernel)) (by decide +kernel)
theorem kw_3_87 : Cond.selects RX6 yX6_bearsAlso yX6_bearsAlso ∈ gw := gw_t3 (List.mem_of_getElem? (i := 87) (by decide +kernel)) (by decide +kernel)
theorem kw_3_88 : Cond.code yX6_bearsAlso cX6_bearsAlso 8 (some .boolean) ∈ gw := gw_t3 (List.mem_of_getElem? (i := 88) (by decide +kernel)) (by decide +kernel)
theorem gk_X3_97 : GoodIn gw (wsV RX3 97 RX6 yX6_bearsAlso (.code yX6_bearsAlso cX6_bearsAlso 8 (some .boolean) :: gw)) ∧ (yX6_bearsAlso.cls = RX6 ∧ yX6_bearsAlso.cls ≠ "java/lang/invoke/MethodHandle" ∧ yX6_bearsAlso.cls ≠ "java/lang/invoke/VarHandle" ∧ (parseMethodDescriptor yX6_bearsAlso.desc).map (fun d => d.parameters.length) = some 4) := ⟨gi_V kw_3_85 kw_3_86 kw_3_87 kw_1_7 kw_3_88, by decide +kernel⟩
theorem dX3_suits_40 : decode cX3_suits 40 = .ok (.invokevirtual 97, 3) := by decide +kernel
theorem dX3_suits_43 : decode cX3_suits 43 = .ok (.ifCond .eq 7, 3) := by decide +kernel
theorem dX3_suits_50 : decode cX3_suits 50 = .ok (.iconst 0, 1) := by decide +kernel
theorem dX3_suits_51 : decode cX3_suits 51 = .ok (.ireturn, 1) := by decide +kernel
theorem dX3_suits_46 : decode cX3_suits 46 = .ok (.iconst 1, 1) := by decide +kernel
theorem dX3_suits_47 : decode cX3_suits 47 = .ok (.goto 4, 3) := by decide +kernel
theorem dX3_suits_7 : decode cX3_suits 7 = .ok (.aload_n 0, 1) := by decide +kernel
theorem dX3_suits_8 : decode cX3_suits 8 = .ok (.aload_n 0, 1) := by decide +kernel
theorem dX3_suits_9 : decode cX3_suits 9 = .ok (.getfield 12, 3) := by decide +kernel
theorem kw_3_71 : Cond.methodLink RX3 91 yX1_apart ∈ gw := gw_t3 (List.mem_of_getElem? (i := 71) (by decide +kernel)) (by decide +kernel)
theorem kw_3_72 : Cond.instanceMethod yX1_apart ∈ gw := gw_t3 (List.mem_of_getElem? (i := 72) (by decide +kernel)) (by decide +kernel)
theorem kw_3_73 : Cond.selects RX1 yX1_apart yX1_apart ∈ gw := gw_t3 (List.mem_of_getElem? (i := 73) (by decide +kernel)) (by decide +kernel)
theorem kw_3_74 : Cond.code yX1_apart cX1_apart 1 (some .int) ∈ gw := gw_t3 (List.mem_of_getElem? (i := 74) (by decide +kernel)) (by decide +kernel)
theorem gk_X3_91 : GoodIn gw (wsV RX3 91 RX1 yX1_apart (.code yX1_apart cX1_apart 1 (some .int) :: gw)) ∧ (yX1_apart.cls = RX1 ∧ yX1_apart.cls ≠ "java/lang/invoke/MethodHandle" ∧ yX1_apart.cls ≠ "java/lang/invoke/VarHandle" ∧ (parseMethodDescriptor yX1_apart.desc).map (fun d => d.parameters.length) = some 0) := ⟨gi_V kw_3_71 kw_3_72 kw_3_73 kw_1_4 kw_3_74, by decide +kernel⟩
theorem dX3_suits_12 : decode cX3_suits 12 = .ok (.invokevirtual 91, 3) := by decide +kernel
theorem dX3_suits_15 : decode cX3_suits 15 = .ok (.iload_n 2, 1) := by decide +kernel
theorem dX3_suits_16 : decode cX3_suits 16 = .ok (.iload_n 3, 1) := by decide +kernel
theorem kw_3_75 : Cond.methodLink RX3 94 yX3_hasFireNearerThan ∈ gw := gw_t3 (List.mem_of_getElem? (i := 75) (by decide +kernel)) (by decide +kernel)
theorem kw_3_77 : Cond.instanceMethod yX3_hasFireNearerThan ∈ gw := gw_t3 (List.mem_of_getElem? (i := 77) (by decide +kernel)) (by decide +kernel)
theorem ks_1_10 : Cond.selects RX3 yX3_hasFireNearerThan yX3_hasFireNearerThan ∈ gw := gw_s (y := yX3_hasFireNearerThan) (n := 6) (List.mem_append_left _ (List.mem_of_getElem? (i := 10) (by decide +kernel)))
theorem kw_3_78 : Cond.code yX3_hasFireNearerThan cX3_hasFireNearerThan 6 (some .boolean) ∈ gw := gw_t3 (List.mem_of_getElem? (i := 78) (by decide +kernel)) (by decide +kernel)
theorem gk_X3_94 : GoodIn gw (wsV RX3 94 RX3 yX3_hasFireNearerThan (.code yX3_hasFireNearerThan cX3_hasFireNearerThan 6 (some .boolean) :: gw)) ∧ (yX3_hasFireNearerThan.cls = RX3 ∧ yX3_hasFireNearerThan.cls ≠ "java/lang/invoke/MethodHandle" ∧ yX3_hasFireNearerThan.cls ≠ "java/lang/invoke/VarHandle" ∧ (parseMethodDescriptor yX3_hasFireNearerThan.desc).map (fun d => d.parameters.length) = some 3) := ⟨gi_V kw_3_75 kw_3_77 ks_1_10 kw_1_6 kw_3_78, by decide +kernel⟩
theorem dX3_suits_17 : decode cX3_suits 17 = .ok (.invokevirtual 94, 3) := by decide +kernel
theorem dX3_suits_20 : decode cX3_suits 20 = .ok (.ifCond .ne 30, 3) := by decide +kernel
theorem dX3_maySet_0 : decode cX3_maySet 0 = .ok (.aload_n 0, 1) := by decide +kernel
theorem dX3_maySet_1 : decode cX3_maySet 1 = .ok (.getfield 21, 3) := by decide +kernel
theorem dX3_maySet_4 : decode cX3_maySet 4 = .ok (.iload_n 2, 1) := by decide +kernel
theorem dX3_maySet_5 : decode cX3_maySet 5 = .ok (.iload_n 3, 1) := by decide +kernel
theorem kw_3_39 : Cond.methodLink RX3 68 yX6_isOpen ∈ gw := gw_t3 (List.mem_of_getElem? (i := 39) (by decide +kernel)) (by decide +kernel)
theorem kw_3_40 : Cond.instanceMethod yX6_isOpen ∈ gw := gw_t3 (List.mem_of_getElem? (i := 40) (by decide +kernel)) (by decide +kernel)
theorem kw_3_41 : Cond.selects RX6 yX6_isOpen yX6_isOpen ∈ gw := gw_t3 (List.mem_of_getElem? (i := 41) (by decide +kernel)) (by decide +kernel)
theorem kw_3_42 : Cond.code yX6_isOpen cX6_isOpen 3 (some .boolean) ∈ gw := gw_t3 (List.mem_of_getElem? (i := 42) (by decide +kernel)) (by decide +kernel)
theorem gk_X3_68 : GoodIn gw (wsV RX3 68 RX6 yX6_isOpen (.code yX6_isOpen cX6_isOpen 3 (some .boolean) :: gw)) ∧ (yX6_isOpen.cls = RX6 ∧ yX6_isOpen.cls ≠ "java/lang/invoke/MethodHandle" ∧ yX6_isOpen.cls ≠ "java/lang/invoke/VarHandle" ∧ (parseMethodDescriptor yX6_isOpen.desc).map (fun d => d.parameters.length) = some 2) := ⟨gi_V kw_3_39 kw_3_40 kw_3_41 kw_1_7 kw_3_42, by decide +kernel⟩
theorem dX3_maySet_6 : decode cX3_maySet 6 = .ok (.invokevirtual 68, 3) := by decide +kernel
theorem dX3_maySet_9 : decode cX3_maySet 9 = .ok (.ifCond .eq 53, 3) := by decide +kernel
theorem dX3_maySet_62 : decode cX3_maySet 62 = .ok (.iconst 0, 1) := by decide +kernel
theorem dX3_maySet_63 : decode cX3_maySet 63 = .ok (.ireturn, 1) := by decide +kernel
theorem dX3_maySet_12 : decode cX3_maySet 12 = .ok (.aload_n 0, 1) := by decide +kernel
theorem dX3_maySet_13 : decode cX3_maySet 13 = .ok (.getfield 21, 3) := by decide +kernel
theorem dX3_maySet_16 : decode cX3_maySet 16 = .ok (.aload_n 0, 1) := by decide +kernel
theorem dX3_maySet_17 : decode cX3_maySet 17 = .ok (.getfield 12, 3) := by decide +kernel
theorem kw_3_47 : Cond.methodLink RX3 72 yX1_near ∈ gw := gw_t3 (List.mem_of_getElem? (i := 47) (by decide +kernel)) (by decide +kernel)
theorem kw_3_48 : Cond.instanceMethod yX1_near ∈ gw := gw_t3 (List.mem_of_getElem? (i := 48) (by decide +kernel)) (by decide +kernel)
theorem kw_3_49 : Cond.selects RX1 yX1_near yX1_near ∈ gw := gw_t3 (List.mem_of_getElem? (i := 49) (by decide +kernel)) (by decide +kernel)
theorem kw_3_50 : Cond.code yX1_near cX1_near 1 (some .int) ∈ gw := gw_t3 (List.mem_of_getElem? (i := 50) (by decide +kernel)) (by decide +kernel)
theorem gk_X3_72 : GoodIn gw (wsV RX3 72 RX1 yX1_near (.code yX1_near cX1_near 1 (some .int) :: gw)) ∧ (yX1_near.cls = RX1 ∧ yX1_near.cls ≠ "java/lang/invoke/MethodHandle" ∧ yX1_near.cls ≠ "java/lang/invoke/VarHandle" ∧ (parseMethodDescriptor yX1_near.desc).map (fun d => d.parameters.length) = some 0) := ⟨gi_V kw_3_47 kw_3_48 kw_3_49 kw_1_4 kw_3_50, by decide +kernel⟩
theorem dX3_maySet_20 : decode cX3_maySet 20 = .ok (.invokevirtual 72, 3) := by decide +kernel
theorem dX3_maySet_23 : decode cX3_maySet 23 = .ok (.iload_n 2, 1) := by decide +kernel
theorem dX3_maySet_24 : decode cX3_maySet 24 = .ok (.iload_n 3, 1) := by decide +kernel
theorem kw_3_51 : Cond.methodLink RX3 76 yX6_hasCrackNearerThan ∈ gw := gw_t3 (List.mem_of_getElem? (i := 51) (by decide +kernel)) (by decide +kernel)
theorem kw_3_52 : Cond.instanceMethod yX6_hasCrackNearerThan ∈ gw := gw_t3 (List.mem_of_getElem? (i := 52) (by decide +kernel)) (by decide +kernel)
theorem kw_3_53 : Cond.selects RX6 yX6_hasCrackNearerThan yX6_hasCrackNearerThan ∈ gw := gw_t3 (List.mem_of_getElem? (i := 53) (by decide +kernel)) (by decide +kernel)
theorem kw_3_54 : Cond.code yX6_hasCrackNearerThan cX6_hasCrackNearerThan 6 (some .boolean) ∈ gw := gw_t3 (List.mem_of_getElem? (i := 54) (by decide +kernel)) (by decide +kernel)
theorem gk_X3_76 : GoodIn gw (wsV RX3 76 RX6 yX6_hasCrackNearerThan (.code yX6_hasCrackNearerThan cX6_hasCrackNearerThan 6 (some .boolean) :: gw)) ∧ (yX6_hasCrackNearerThan.cls = RX6 ∧ yX6_hasCrackNearerThan.cls ≠ "java/lang/invoke/MethodHandle" ∧ yX6_hasCrackNearerThan.cls ≠ "java/lang/invoke/VarHandle" ∧ (parseMethodDescriptor yX6_hasCrackNearerThan.desc).map (fun d => d.parameters.length) = some 3) := ⟨gi_V kw_3_51 kw_3_52 kw_3_53 kw_1_7 kw_3_54, by decide +kernel⟩
theorem dX3_maySet_25 : decode cX3_maySet 25 = .ok (.invokevirtual 76, 3) := by decide +kernel
theorem dX3_maySet_28 : decode cX3_maySet 28 = .ok (.ifCond .ne 34, 3) := by decide +kernel
theorem dX3_maySet_31 : decode cX3_maySet 31 = .ok (.aload_n 0, 1) := by decide +kernel
theorem dX3_maySet_32 : decode cX3_maySet 32 = .ok (.getfield 21, 3) := by decide +kernel
theorem dX3_maySet_35 : decode cX3_maySet 35 = .ok (.aload_n 0, 1) := by decide +kernel
theorem dX3_maySet_36 : decode cX3_maySet 36 = .ok (.getfield 12, 3) := by decide +kernel
theorem dX3_maySet_39 : decode cX3_maySet 39 = .ok (.invokevirtual 80, 3) := by decide +kernel
theorem kw_3_59 : Cond.methodLink RX3 83 yX6_bearsAll ∈ gw := gw_t3 (List.mem_of_getElem? (i := 59) (by decide +kernel)) (by decide +kernel)
theorem kw_3_60 : Cond.instanceMethod yX6_bearsAll ∈ gw := gw_t3 (List.mem_of_getElem? (i := 60) (by decide +kernel)) (by decide +kernel)
theorem kw_3_61 : Cond.selects RX6 yX6_bearsAll yX6_bearsAll ∈ gw := gw_t3 (List.mem_of_getElem? (i := 61) (by decide +kernel)) (by decide +kernel)
theorem kw_3_62 : Cond.code yX6_bearsAll cX6_bearsAll 5 (some .boolean) ∈ gw := gw_t3 (List.mem_of_getElem? (i := 62) (by decide +kernel)) (by decide +kernel)
theorem gk_X3_83 : GoodIn gw (wsV RX3 83 RX6 yX6_bearsAll (.code yX6_bearsAll cX6_bearsAll 5 (some .boolean) :: gw)) ∧ (yX6_bearsAll.cls = RX6 ∧ yX6_bearsAll.cls ≠ "java/lang/invoke/MethodHandle" ∧ yX6_bearsAll.cls ≠ "java/lang/invoke/VarHandle" ∧ (parseMethodDescriptor yX6_bearsAll.desc).map (fun d => d.parameters.length) = some 1) := ⟨gi_V kw_3_59 kw_3_60 kw_3_61 kw_1_7 kw_3_62, by decide +kernel⟩
theorem dX3_maySet_42 : decode cX3_maySet 42 = .ok (.invokevirtual 83, 3) := by decide +kernel
theorem dX3_maySet_45 : decode cX3_maySet 45 = .ok (.ifCond .eq 17, 3) := by decide +kernel
theorem dX3_maySet_48 : decode cX3_maySet 48 = .ok (.aload_n 0, 1) := by decide +kernel
theorem dX3_maySet_49 : decode cX3_maySet 49 = .ok (.aload_n 1, 1) := by decide +kernel
theorem dX3_maySet_50 : decode cX3_maySet 50 = .ok (.iload_n 2, 1) := by decide +kernel
theorem dX3_maySet_51 : decode cX3_maySet 51 = .ok (.iload_n 3, 1) := by decide +kernel
theorem kw_3_67 : Cond.methodLink RX3 87 yX3_suits ∈ gw := gw_t3 (List.mem_of_getElem? (i := 67) (by decide +kernel)) (by decide +kernel)
theorem kw_3_68 : Cond.instanceMethod yX3_suits ∈ gw := gw_t3 (List.mem_of_getElem? (i := 68) (by decide +kernel)) (by decide +kernel)
theorem kw_3_69 : Cond.selects RX3 yX3_suits yX3_suits ∈ gw := gw_t3 (List.mem_of_getElem? (i := 69) (by decide +kernel)) (by decide +kernel)
theorem kw_3_70 : Cond.code yX3_suits cX3_suits 4 (some .boolean) ∈ gw := gw_t3 (List.mem_of_getElem? (i := 70) (by decide +kernel)) (by decide +kernel)
theorem gk_X3_87 : GoodIn gw (wsV RX3 87 RX3 yX3_suits (.code yX3_suits cX3_suits 4 (some .boolean) :: gw)) ∧ (yX3_suits.cls = RX3 ∧ yX3_suits.cls ≠ "java/lang/invoke/MethodHandle" ∧ yX3_suits.cls ≠ "java/lang/invoke/VarHandle" ∧ (parseMethodDescriptor yX3_suits.desc).map (fun d => d.parameters.length) = some 3) := ⟨gi_V kw_3_67 kw_3_68 kw_3_69 kw_1_6 kw_3_70, by decide +kernel⟩
theorem dX3_maySet_52 : decode cX3_maySet 52 = .ok (.invokevirtual 87, 3) := by decide +kernel
theorem dX3_maySet_55 : decode cX3_maySet 55 = .ok (.ifCond .eq 7, 3) := by decide +kernel
theorem dX3_maySet_58 : decode cX3_maySet 58 = .ok (.iconst 1, 1) := by decide +kernel
theorem dX3_maySet_59 : decode cX3_maySet 59 = .ok (.goto 4, 3) := by decide +kernel
theorem dX3_put_0 : decode cX3_put 0 = .ok (.aload_n 0, 1) := by decide +kernel
theorem dX3_put_1 : decode cX3_put 1 = .ok (.getfield 21, 3) := by decide +kernel
theorem dX3_put_4 : decode cX3_put 4 = .ok (.iload_n 2, 1) := by decide +kernel
theorem dX3_put_5 : decode cX3_put 5 = .ok (.iload_n 3, 1) := by decide +kernel
theorem kw_3_96 : Cond.methodLink RX3 111 yX6_has ∈ gw := gw_t3 (List.mem_of_getElem? (i := 96) (by decide +kernel)) (by decide +kernel)
theorem gk_X3_111 : GoodIn gw (wsV RX3 111 RX6 yX6_has (.code yX6_has cX6_has 3 (some .boolean) :: gw)) ∧ (yX6_has.cls = RX6 ∧ yX6_has.cls ≠ "java/lang/invoke/MethodHandle" ∧ yX6_has.cls ≠ "java/lang/invoke/VarHandle" ∧ (parseMethodDescriptor yX6_has.desc).map (fun d => d.parameters.length) = some 2) := ⟨gi_V kw_3_96 kw_3_7 kw_3_8 kw_1_7 kw_3_9, by decide +kernel⟩
theorem dX3_put_6 : decode cX3_put 6 = .ok (.invokevirtual 111, 3) := by decide +kernel
theorem dX3_put_9 : decode cX3_put 9 = .ok (.ifCond .ne 4, 3) := by decide +kernel
theorem dX3_put_13 : decode cX3_put 13 = .ok (.aload_n 1, 1) := by decide +kernel
theorem dX3_put_14 : decode cX3_put 14 = .ok (.iconst 1, 1) := by decide +kernel
theorem dX3_put_15 : decode cX3_put 15 = .ok (.putfield 59, 3) := by decide +kernel
theorem dX3_put_18 : decode cX3_put 18 = .ok (.aload_n 1, 1) := by decide +kernel
theorem dX3_put_19 : decode cX3_put 19 = .ok (.iload_n 2, 1) := by decide +kernel
theorem dX3_put_20 : decode cX3_put 20 = .ok (.putfield 62, 3) := by decide +kernel
theorem dX3_put_23 : decode cX3_put 23 = .ok (.aload_n 1, 1) := by decide +kernel
theorem dX3_put_24 : decode cX3_put 24 = .ok (.iload_n 3, 1) := by decide +kernel
theorem dX3_put_25 : decode cX3_put 25 = .ok (.putfield 65, 3) := by decide +kernel
theorem dX3_put_28 : decode cX3_put 28 = .ok (.aload_n 0, 1) := by decide +kernel
theorem dX3_put_29 : decode cX3_put 29 = .ok (.getfield 21, 3) := by decide +kernel
theorem kw_1_155 : Cond.fieldLink RX3 114 "IceFair$River" "guest" "[I" ∈ gw := gw_t1 (List.mem_of_getElem? (i := 155) (by decide +kernel)) (by decide +kernel)
theorem dX3_put_32 : decode cX3_put 32 = .ok (.getfield 114, 3) := by decide +kernel
theorem dX3_put_35 : decode cX3_put 35 = .ok (.aload_n 0, 1) := by decide +kernel
theorem dX3_put_36 : decode cX3_put 36 = .ok (.getfield 21, 3) := by decide +kernel
theorem dX3_put_39 : decode cX3_put 39 = .ok (.iload_n 2, 1) := by decide +kernel
theorem dX3_put_40 : decode cX3_put 40 = .ok (.iload_n 3, 1) := by decide +kernel
theorem kw_3_97 : Cond.methodLink RX3 118 yX6_spotOf ∈ gw := gw_t3 (List.mem_of_getElem? (i := 97) (by decide +kernel)) (by decide +kernel)
theorem gk_X3_118 : GoodIn gw (wsV RX3 118 RX6 yX6_spotOf (.code yX6_spotOf cX6_spotOf 3 (some .int) :: gw)) ∧ (yX6_spotOf.cls = RX6 ∧ yX6_spotOf.cls ≠ "java/lang/invoke/MethodHandle" ∧ yX6_spotOf.cls ≠ "java/lang/invoke/VarHandle" ∧ (parseMethodDescriptor yX6_spotOf.desc).map (fun d => d.parameters.length) = some 2) := ⟨gi_V kw_3_97 kw_3_16 kw_3_17 kw_1_7 kw_3_18, by decide +kernel⟩
theorem dX3_put_41 : decode cX3_put 41 = .ok (.invokevirtual 118, 3) := by decide +kernel
theorem dX3_put_44 : decode cX3_put 44 = .ok (.aload_n 1, 1) := by decide +kernel
theorem dX3_put_45 : decode cX3_put 45 = .ok (.getfield 46, 3) := by decide +kernel
theorem dX3_put_48 : decode cX3_put 48 = .ok (.iastore, 1) := by decide +kernel
theorem dX3_put_49 : decode cX3_put 49 = .ok (.aload_n 0, 1) := by decide +kernel
theorem dX3_put_50 : decode cX3_put 50 = .ok (.getfield 21, 3) := by decide +kernel
theorem dX3_put_53 : decode cX3_put 53 = .ok (.iload_n 2, 1) := by decide +kernel
theorem dX3_put_54 : decode cX3_put 54 = .ok (.iload_n 3, 1) := by decide +kernel
theorem dX3_put_55 : decode cX3_put 55 = .ok (.aload_n 1, 1) := by decide +kernel
theorem dX3_put_56 : decode cX3_put 56 = .ok (.getfield 49, 3) := by decide +kernel
theorem kw_3_98 : Cond.methodLink RX3 121 yX6_load ∈ gw := gw_t3 (List.mem_of_getElem? (i := 98) (by decide +kernel)) (by decide +kernel)
theorem kw_3_99 : Cond.instanceMethod yX6_load ∈ gw := gw_t3 (List.mem_of_getElem? (i := 99) (by decide +kernel)) (by decide +kernel)
theorem kw_3_100 : Cond.selects RX6 yX6_load yX6_load ∈ gw := gw_t3 (List.mem_of_getElem? (i := 100) (by decide +kernel)) (by decide +kernel)
theorem kw_3_101 : Cond.code yX6_load cX6_load 6 none ∈ gw := gw_t3 (List.mem_of_getElem? (i := 101) (by decide +kernel)) (by decide +kernel)
theorem gk_X3_121 : GoodIn gw (wsV RX3 121 RX6 yX6_load (.code yX6_load cX6_load 6 none :: gw)) ∧ (yX6_load.cls = RX6 ∧ yX6_load.cls ≠ "java/lang/invoke/MethodHandle" ∧ yX6_load.cls ≠ "java/lang/invoke/VarHandle" ∧ (parseMethodDescriptor yX6_load.desc).map (fun d => d.parameters.length) = some 3) := ⟨gi_V kw_3_98 kw_3_99 kw_3_100 kw_1_7 kw_3_101, by decide +kernel⟩
theorem dX3_put_59 : decode cX3_put 59 = .ok (.invokevirtual 121, 3) := by decide +kernel
theorem dX3_put_62 : decode cX3_put 62 = .ok (.return_, 1) := by decide +kernel
theorem dX3_lift_0 : decode cX3_lift 0 = .ok (.aload_n 0, 1) := by decide +kernel
theorem dX3_lift_1 : decode cX3_lift 1 = .ok (.getfield 21, 3) := by decide +kernel
theorem dX3_lift_4 : decode cX3_lift 4 = .ok (.aload_n 1, 1) := by decide +kernel
theorem dX3_lift_5 : decode cX3_lift 5 = .ok (.getfield 62, 3) := by decide +kernel
theorem dX3_lift_8 : decode cX3_lift 8 = .ok (.aload_n 1, 1) := by decide +kernel
theorem dX3_lift_9 : decode cX3_lift 9 = .ok (.getfield 65, 3) := by decide +kernel
theorem dX3_lift_12 : decode cX3_lift 12 = .ok (.invokevirtual 111, 3) := by decide +kernel
theorem dX3_lift_15 : decode cX3_lift 15 = .ok (.ifCond .ne 4, 3) := by decide +kernel
theorem dX3_lift_18 : decode cX3_lift 18 = .ok (.return_, 1) := by decide +kernel
theorem dX3_lift_19 : decode cX3_lift 19 = .ok (.aload_n 0, 1) := by decide +kernel
theorem dX3_lift_20 : decode cX3_lift 20 = .ok (.getfield 21, 3) := by decide +kernel
theorem dX3_lift_23 : decode cX3_lift 23 = .ok (.getfield 114, 3) := by decide +kernel
theorem dX3_lift_26 : decode cX3_lift 26 = .ok (.aload_n 0, 1) := by decide +kernel
theorem dX3_lift_27 : decode cX3_lift 27 = .ok (.getfield 21, 3) := by decide +kernel
theorem dX3_lift_30 : decode cX3_lift 30 = .ok (.aload_n 1, 1) := by decide +kernel
theorem dX3_lift_31 : decode cX3_lift 31 = .ok (.getfield 62, 3) := by decide +kernel
theorem dX3_lift_34 : decode cX3_lift 34 = .ok (.aload_n 1, 1) := by decide +kernel
theorem dX3_lift_35 : decode cX3_lift 35 = .ok (.getfield 65, 3) := by decide +kernel
theorem dX3_lift_38 : decode cX3_lift 38 = .ok (.invokevirtual 118, 3) := by decide +kernel
theorem dX3_lift_41 : decode cX3_lift 41 = .ok (.iconst (-1), 1) := by decide +kernel
theorem dX3_lift_42 : decode cX3_lift 42 = .ok (.iastore, 1) := by decide +kernel
theorem dX3_lift_43 : decode cX3_lift 43 = .ok (.aload_n 0, 1) := by decide +kernel
theorem dX3_lift_44 : decode cX3_lift 44 = .ok (.getfield 21, 3) := by decide +kernel
theorem dX3_lift_47 : decode cX3_lift 47 = .ok (.aload_n 1, 1) := by decide +kernel
theorem dX3_lift_48 : decode cX3_lift 48 = .ok (.getfield 62, 3) := by decide +kernel
theorem dX3_lift_51 : decode cX3_lift 51 = .ok (.aload_n 1, 1) := by decide +kernel
theorem dX3_lift_52 : decode cX3_lift 52 = .ok (.getfield 65, 3) := by decide +kernel
theorem dX3_lift_55 : decode cX3_lift 55 = .ok (.aload_n 1, 1) := by decide +kernel
theorem dX3_lift_56 : decode cX3_lift 56 = .ok (.getfield 49, 3) := by decide +kernel
theorem dX3_lift_59 : decode cX3_lift 59 = .ok (.ineg, 1) := by decide +kernel
theorem dX3_lift_60 : decode cX3_lift 60 = .ok (.invokevirtual 121, 3) := by decide +kernel
theorem dX3_lift_63 : decode cX3_lift 63 = .ok (.aload_n 1, 1) := by decide +kernel
theorem dX3_lift_64 : decode cX3_lift 64 = .ok (.iload_n 2, 1) := by decide +kernel
theorem dX3_lift_65 : decode cX3_lift 65 = .ok (.putfield 59, 3) := by decide +kernel
theorem dX3_lift_68 : decode cX3_lift 68 = .ok (.aload_n 1, 1) := by decide +kernel
theorem dX3_lift_69 : decode cX3_lift 69 = .ok (.iconst (-1), 1) := by decide +kernel
theorem dX3_lift_70 : decode cX3_lift 70 = .ok (.putfield 62, 3) := by decide +kernel
theorem dX3_lift_73 : decode cX3_lift 73 = .ok (.aload_n 1, 1) := by decide +kernel
theorem dX3_lift_74 : decode cX3_lift 74 = .ok (.iconst (-1), 1) := by decide +kernel
theorem dX3_lift_75 : decode cX3_lift 75 = .ok (.putfield 65, 3) := by decide +kernel
theorem dX3_lift_78 : decode cX3_lift 78 = .ok (.return_, 1) := by decide +kernel
theorem dX3_takeFee_0 : decode cX3_takeFee 0 = .ok (.aload_n 0, 1) := by decide +kernel
theorem dX3_takeFee_1 : decode cX3_takeFee 1 = .ok (.getfield 12, 3) := by decide +kernel
theorem kw_3_106 : Cond.methodLink RX3 125 yX1_feeByWeight ∈ gw := gw_t3 (List.mem_of_getElem? (i := 106) (by decide +kernel)) (by decide +kernel)
theorem kw_3_107 : Cond.instanceMethod yX1_feeByWeight ∈ gw := gw_t3 (List.mem_of_getElem? (i := 107) (by decide +kernel)) (by decide +kernel)
theorem kw_3_108 : Cond.selects RX1 yX1_feeByWeight yX1_feeByWeight ∈ gw := gw_t3 (List.mem_of_getElem? (i := 108) (by decide +kernel)) (by decide +kernel)
theorem kw_3_109 : Cond.code yX1_feeByWeight cX1_feeByWeight 1 (some .int) ∈ gw := gw_t3 (List.mem_of_getElem? (i := 109) (by decide +kernel)) (by decide +kernel)
theorem gk_X3_125 : GoodIn gw (wsV RX3 125 RX1 yX1_feeByWeight (.code yX1_feeByWeight cX1_feeByWeight 1 (some .int) :: gw)) ∧ (yX1_feeByWeight.cls = RX1 ∧ yX1_feeByWeight.cls ≠ "java/lang/invoke/MethodHandle" ∧ yX1_feeByWeight.cls ≠ "java/lang/invoke/VarHandle" ∧ (parseMethodDescriptor yX1_feeByWeight.desc).map (fun d => d.parameters.length) = some 0) := ⟨gi_V kw_3_106 kw_3_107 kw_3_108 kw_1_4 kw_3_109, by decide +kernel⟩
theorem dX3_takeFee_4 : decode cX3_takeFee 4 = .ok (.invokevirtual 125, 3) := by decide +kernel
theorem dX3_takeFee_7 : decode cX3_takeFee 7 = .ok (.aload_n 1, 1) := by decide +kernel
theorem dX3_takeFee_8 : decode cX3_takeFee 8 = .ok (.getfield 49, 3) := by decide +kernel
theorem dX3_takeFee_11 : decode cX3_takeFee 11 = .ok (.imul, 1) := by decide +kernel
theorem dX3_takeFee_12 : decode cX3_takeFee 12 = .ok (.aload_n 1, 1) := by decide +kernel
theorem dX3_takeFee_13 : decode cX3_takeFee 13 = .ok (.getfield 52, 3) := by decide +kernel
theorem dX3_takeFee_16 : decode cX3_takeFee 16 = .ok (.ifCond .eq 13, 3) := by decide +kernel
theorem dX3_takeFee_29 : decode cX3_takeFee 29 = .ok (.iconst 0, 1) := by decide +kernel
theorem dX3_takeFee_30 : decode cX3_takeFee 30 = .ok (.iadd, 1) := by decide +kernel
theorem dX3_takeFee_31 : decode cX3_takeFee 31 = .ok (.istore_n 2, 1) := by decide +kernel
theorem dX3_takeFee_32 : decode cX3_takeFee 32 = .ok (.aload_n 0, 1) := by decide +kernel
theorem dX3_takeFee_33 : decode cX3_takeFee 33 = .ok (.dup, 1) := by decide +kernel
theorem kw_1_232 : Cond.fieldLink RX3 43 "IceFair$Fair" "fees" "I" ∈ gw := gw_t1 (List.mem_of_getElem? (i := 232) (by decide +kernel)) (by decide +kernel)
theorem dX3_takeFee_34 : decode cX3_takeFee 34 = .ok (.getfield 43, 3) := by decide +kernel
theorem dX3_takeFee_37 : decode cX3_takeFee 37 = .ok (.iload_n 2, 1) := by decide +kernel
theorem dX3_takeFee_38 : decode cX3_takeFee 38 = .ok (.iadd, 1) := by decide +kernel
theorem dX3_takeFee_39 : decode cX3_takeFee 39 = .ok (.putfield 43, 3) := by decide +kernel
theorem dX3_takeFee_42 : decode cX3_takeFee 42 = .ok (.iload_n 2, 1) := by decide +kernel
theorem dX3_takeFee_43 : decode cX3_takeFee 43 = .ok (.ireturn, 1) := by decide +kernel
theorem dX3_takeFee_19 : decode cX3_takeFee 19 = .ok (.aload_n 0, 1) := by decide +kernel
theorem dX3_takeFee_20 : decode cX3_takeFee 20 = .ok (.getfield 12, 3) := by decide +kernel
theorem kw_3_110 : Cond.methodLink RX3 128 yX1_feeForFire ∈ gw := gw_t3 (List.mem_of_getElem? (i := 110) (by decide +kernel)) (by decide +kernel)
theorem kw_3_111 : Cond.instanceMethod yX1_feeForFire ∈ gw := gw_t3 (List.mem_of_getElem? (i := 111) (by decide +kernel)) (by decide +kernel)
theorem kw_3_112 : Cond.selects RX1 yX1_feeForFire yX1_feeForFire ∈ gw := gw_t3 (List.mem_of_getElem? (i := 112) (by decide +kernel)) (by decide +kernel)
theorem kw_3_113 : Cond.code yX1_feeForFire cX1_feeForFire 1 (some .int) ∈ gw := gw_t3 (List.mem_of_getElem? (i := 113) (by decide +kernel)) (by decide +kernel)
theorem gk_X3_128 : GoodIn gw (wsV RX3 128 RX1 yX1_feeForFire (.code yX1_feeForFire cX1_feeForFire 1 (some .int) :: gw)) ∧ (yX1_feeForFire.cls = RX1 ∧ yX1_feeForFire.cls ≠ "java/lang/invoke/MethodHandle" ∧ yX1_feeForFire.cls ≠ "java/lang/invoke/VarHandle" ∧ (parseMethodDescriptor yX1_feeForFire.desc).map (fun d => d.parameters.length) = some 0) := ⟨gi_V kw_3_110 kw_3_111 kw_3_112 kw_1_4 kw_3_113, by decide +kernel⟩
theorem dX3_takeFee_23 : decode cX3_takeFee 23 = .ok (.invokevirtual 128, 3) := by decide +kernel
theorem dX3_takeFee_26 : decode cX3_takeFee 26 = .ok (.goto 4, 3) := by decide +kernel
theorem dX3_hasToMove_0 : decode cX3_hasToMove 0 = .ok (.aload_n 1, 1) := by decide +kernel
theorem dX3_hasToMove_1 : decode cX3_hasToMove 1 = .ok (.getfield 59, 3) := by decide +kernel
theorem dX3_hasToMove_4 : decode cX3_hasToMove 4 = .ok (.iconst 1, 1) := by decide +kernel
theorem dX3_hasToMove_5 : decode cX3_hasToMove 5 = .ok (.if_icmp .ne 32, 3) := by decide +kernel
theorem dX3_hasToMove_37 : decode cX3_hasToMove 37 = .ok (.iconst 0, 1) := by decide +kernel
theorem dX3_hasToMove_38 : decode cX3_hasToMove 38 = .ok (.ireturn, 1) := by decide +kernel
theorem dX3_hasToMove_8 : decode cX3_hasToMove 8 = .ok (.aload_n 0, 1) := by decide +kernel
theorem dX3_hasToMove_9 : decode cX3_hasToMove 9 = .ok (.getfield 21, 3) := by decide +kernel
theorem dX3_hasToMove_12 : decode cX3_hasToMove 12 = .ok (.aload_n 0, 1) := by decide +kernel
theorem dX3_hasToMove_13 : decode cX3_hasToMove 13 = .ok (.getfield 12, 3) := by decide +kernel
theorem dX3_hasToMove_16 : decode cX3_hasToMove 16 = .ok (.invokevirtual 72, 3) := by decide +kernel
theorem dX3_hasToMove_19 : decode cX3_hasToMove 19 = .ok (.aload_n 1, 1) := by decide +kernel
theorem dX3_hasToMove_20 : decode cX3_hasToMove 20 = .ok (.getfield 62, 3) := by decide +kernel
theorem dX3_hasToMove_23 : decode cX3_hasToMove 23 = .ok (.aload_n 1, 1) := by decide +kernel
theorem dX3_hasToMove_24 : decode cX3_hasToMove 24 = .ok (.getfield 65, 3) := by decide +kernel
theorem dX3_hasToMove_27 : decode cX3_hasToMove 27 = .ok (.invokevirtual 76, 3) := by decide +kernel
theorem dX3_hasToMove_30 : decode cX3_hasToMove 30 = .ok (.ifCond .eq 7, 3) := by decide +kernel
theorem dX3_hasToMove_33 : decode cX3_hasToMove 33 = .ok (.iconst 1, 1) := by decide +kernel
theorem dX3_hasToMove_34 : decode cX3_hasToMove 34 = .ok (.goto 4, 3) := by decide +kernel
set_option maxHeartbeats 4000000 in
set_option maxRecDepth 100000 in
theorem c_hasToMove (l : Launch) (D : va_G) (bo : Nat → Nat) (B1 : Nat → Int32) (B2 : Nat → Int32) (B3 : Nat → Int32) (B4 : Nat → Int32) (B5 : Nat → Int32) (B6 : Nat → Int32) (B7 : Nat → Int32) (h0 : Nat) (cu : Nat) (rv : Nat) (bt : Nat) (bc : Nat) (ho : Int32) (fe : Int32) (cu1 : Nat) (cu2 : Nat) (cu3 : Nat) (cu4 : Nat) (cc1 : ClassId) (cf1 : Nat → Int32) (sc : Int32) (to : Int32) (q1 : Nat) (q2 : Nat) (q3 : Nat) (q4 : Nat) (q5 : Nat) (q6 : Nat) (cy5 : ClassId) (f5 : Nat → Int32) (w : Nat) (h : Nat) (j : Nat) (hj : j < 10) (h3 : w ≤ 10) (h4 : h ≤ 10) : cI l yX3_hasToMove (.code yX3_hasToMove cX3_hasToMove 2 (some .boolean)) ({ frames := 2, cells := 0, slots := 0, locals := 47 }) D [(cc1, .int), (cy5, .boolean)] (bL bo B1 B2 B3 B4 B5 B6 B7 ++ ([(h0, Sum.inr (3, [Value.ref cu, Value.ref rv, Value.ref bt, Value.int (nI bc), Value.int ho, Value.int fe])), (cu, Sum.inr (1, [Value.ref cu1, Value.ref cu2, Value.ref cu3, Value.ref cu4, Value.int sc, Value.int to])), (cu1, Sum.inl (cc1, 8, Sum.inl cf1)), (rv, Sum.inr (5, [Value.int (nI w), Value.int (nI h), Value.ref q1, Value.ref q2, Value.ref q3, Value.ref q4, Value.ref q5, Value.ref q6])), (q5, Sum.inl (cy5, 100, Sum.inl f5))] : va_W)) xT [Value.ref h0, Value.ref (bo j)] (S := Unit) (fun r _ => r = 0 ∨ r = 1) (fun _ => []) (fun _ => (bL bo B1 B2 B3 B4 B5 B6 B7 ++ ([(h0, Sum.inr (3, [Value.ref cu, Value.ref rv, Value.ref bt, Value.int (nI bc), Value.int ho, Value.int fe])), (cu, Sum.inr (1, [Value.ref cu1, Value.ref cu2, Value.ref cu3, Value.ref cu4, Value.int sc, Value.int to])), (cu1, Sum.inl (cc1, 8, Sum.inl cf1)), (rv, Sum.inr (5, [Value.int (nI w), Value.int (nI h), Value.ref q1, Value.ref q2, Value.ref q3, Value.ref q4, Value.ref q5, Value.ref q6])), (q5, Sum.inl (cy5, 100, Sum.inl f5))] : va_W))) := by
  intro sz
  refine Met.ofW (cc := cX3_hasToMove) (maxL := 2) (ret := (some .boolean)) (by decide) rfl ?_
  intro p e s m args below meth c s₁ B hml hv
  obtain ⟨rfl, hsz, hP, hK, hD0, hX⟩ := hv
  have hx := B.exec
  have hb := B.bytes
  have hr := B.returns
  have hts0 := atoms_spec (ws := .code yX3_hasToMove cX3_hasToMove 2 (some .boolean) :: gw) B.pre
  have hts := fun (w : Cond) (h : w ∈ gw) => hts0 w (List.mem_cons_of_mem _ h)
  have hown : s.vm.findClass RX3 = some m.cls := findClass_of_methodNamed B.named
  have hlocks := B.notSynchronized
  have F : mFix p s m _ c cX3_hasToMove 2 RX3 := ⟨hx, hb, hml, hown, hts⟩
  subst hsz
  have hD := hD0.self (sz := s.heap.size)
  generalize hAe : va_A (bL bo B1 B2 B3 B4 B5 B6 B7 ++ ([(h0, Sum.inr (3, [Value.ref cu, Value.ref rv, Value.ref bt, Value.int (nI bc), Value.int ho, Value.int fe])), (cu, Sum.inr (1, [Value.ref cu1, Value.ref cu2, Value.ref cu3, Value.ref cu4, Value.int sc, Value.int to])), (cu1, Sum.inl (cc1, 8, Sum.inl cf1)), (rv, Sum.inr (5, [Value.int (nI w), Value.int (nI h), Value.ref q1, Value.ref q2, Value.ref q3, Value.ref q4, Value.ref q5, Value.ref q6])), (q5, Sum.inl (cy5, 100, Sum.inl f5))] : va_W)) s.heap.size = A at hD hX ⊢
  have hA : ∀ q : Nat, s.heap.size ≤ q → A q := fun q h => by rw [← hAe]; exact Or.inr h
  have hS : va_S A s.heap s.heap [] := va_S.rf
  have hl := lv_entry ([Value.ref h0, Value.ref (bo j)]) (n := 2) (Nat.le_of_ble_eq_true rfl)
  rw [lg_entry_eq]
  generalize (lg_sl ([Value.ref h0, Value.ref (bo j)]) ++ List.replicate (2 - (lg_sl ([Value.ref h0, Value.ref (bo j)])).length) Slot.unset).toArray = ls at hl ⊢
  have hl : lv_has ls 2 [(0, Value.ref h0), (1, Value.ref (bo j))] := hl
  have hP : va_P D vwCl (bL bo B1 B2 B3 B4 B5 B6 B7 ++ ([(h0, Sum.inr (3, [Value.ref cu, Value.ref rv, Value.ref bt, Value.int (nI bc), Value.int ho, Value.int fe])), (cu, Sum.inr (1, [Value.ref cu1, Value.ref cu2, Value.ref cu3, Value.ref cu4, Value.int sc, Value.int to])), (cu1, Sum.inl (cc1, 8, Sum.inl cf1)), (rv, Sum.inr (5, [Value.int (nI w), Value.int (nI h), Value.ref q1, Value.ref q2, Value.ref q3, Value.ref q4, Value.ref q5, Value.ref q6])), (q5, Sum.inl (cy5, 100, Sum.inl f5))] : va_W)) s.heap := hP
  refine lv_aload_n hx hb dX3_hasToMove_0 rfl (lv_at hl 1 rfl) ?_
  refine va_get (D := D) (ci := 0) (v := .int (B5 j)) (C := RX0) (T := TX0) (N := 7) hx hb hts inG_X0 hown hK hP j (bL_get (by omega)) rfl 4 (by decide) (hts _ kw_1_192) (fun _ h9 => h9) rfl dX3_hasToMove_1 ?_
  refine lv_iconst (v := 1) hx hb dX3_hasToMove_4 (by decide) ?_
  refine lv_icmp_ne (tgt := 37) hx hb dX3_hasToMove_5 (by decide) (fun c_1 => ?_) (fun c_1 => ?_)
  · skip
    refine lv_iconst (v := 0) hx hb dX3_hasToMove_37 (by decide) ?_
    have hP9 := hP.sub (ws' := (bL bo B1 B2 B3 B4 B5 B6 B7 ++ ([(h0, Sum.inr (3, [Value.ref cu, Value.ref rv, Value.ref bt, Value.int (nI bc), Value.int ho, Value.int fe])), (cu, Sum.inr (1, [Value.ref cu1, Value.ref cu2, Value.ref cu3, Value.ref cu4, Value.int sc, Value.int to])), (cu1, Sum.inl (cc1, 8, Sum.inl cf1)), (rv, Sum.inr (5, [Value.int (nI w), Value.int (nI h), Value.ref q1, Value.ref q2, Value.ref q3, Value.ref q4, Value.ref q5, Value.ref q6])), (q5, Sum.inl (cy5, 100, Sum.inl f5))] : va_W))) [0, 1, 2, 3, 4, 5, 6, 7, 8, 9, 10, 11, 12, 13, 14] rfl
    have hD9 := hD.sub (ws' := (bL bo B1 B2 B3 B4 B5 B6 B7 ++ ([(h0, Sum.inr (3, [Value.ref cu, Value.ref rv, Value.ref bt, Value.int (nI bc), Value.int ho, Value.int fe])), (cu, Sum.inr (1, [Value.ref cu1, Value.ref cu2, Value.ref cu3, Value.ref cu4, Value.int sc, Value.int to])), (cu1, Sum.inl (cc1, 8, Sum.inl cf1)), (rv, Sum.inr (5, [Value.int (nI w), Value.int (nI h), Value.ref q1, Value.ref q2, Value.ref q3, Value.ref q4, Value.ref q5, Value.ref q6])), (q5, Sum.inl (cy5, 100, Sum.inl f5))] : va_W))) [0, 1, 2, 3, 4, 5, 6, 7, 8, 9, 10, 11, 12, 13, 14] (by decide) rfl
    have hK9 := hK.sub (tys' := []) [] rfl
    refine W.widen (k := 0) (n := 0) (by decide) (by decide) ?_
    exact W.zret (v := 0) hx hb hr rfl (fun t ht hW => ⟨⟨0, (), rfl, Or.inl rfl, by rw [ht]; exact hP9, va_K.moved hW.alike hK9, hD9⟩, hS.F ht⟩) hS.2.2 dX3_hasToMove_38
  · skip
    refine lv_aload_n hx hb dX3_hasToMove_8 rfl (lv_at hl 0 rfl) ?_
    refine va_get (D := D) (ci := 3) (v := Value.ref rv) (C := RX3) (T := TX3) (N := 6) hx hb hts inG_X3 hown hK hP 10 rfl rfl 1 (by decide) (hts _ kw_1_219) (fun _ h9 => h9) rfl dX3_hasToMove_9 ?_
    refine lv_aload_n hx hb dX3_hasToMove_12 rfl (lv_at hl 0 rfl) ?_
    refine va_get (D := D) (ci := 3) (v := Value.ref cu) (C := RX3) (T := TX3) (N := 6) hx hb hts inG_X3 hown hK hP 10 rfl rfl 0 (by decide) (hts _ kw_1_215) (fun _ h9 => h9) rfl dX3_hasToMove_13 ?_
    refine mc_Vi (rest := [Value.ref rv]) (wr := (bL bo B1 B2 B3 B4 B5 B6 B7 ++ ([(h0, Sum.inr (3, [Value.ref cu, Value.ref rv, Value.ref bt, Value.int (nI bc), Value.int ho, Value.int fe])), (rv, Sum.inr (5, [Value.int (nI w), Value.int (nI h), Value.ref q1, Value.ref q2, Value.ref q3, Value.ref q4, Value.ref q5, Value.ref q6])), (q5, Sum.inl (cy5, 100, Sum.inl f5))] : va_W))) F hK hP hD hS hA (c_cu_near l D cu cu1 cu2 cu3 cu4 cc1 cf1 sc to ) ⟨gk_X3_72.1, gk_X3_72.2, Nat.le_of_ble_eq_true rfl, Nat.le_of_ble_eq_true rfl⟩ [11, 12] [0, 1, 2, 3, 4, 5, 6, 7, 8, 9, 10, 13, 14] [0] ⟨rfl, rfl, rfl, rfl, by decide⟩ rfl xT_move (fun _ _ _ => trivial) 11 rfl rfl rfl hl.1 rfl (Nat.le_of_ble_eq_true rfl) dX3_hasToMove_16 ⟨Nat.le_of_ble_eq_true rfl, Nat.le_of_ble_eq_true rfl⟩ (fun r_2 _ H locs hw hK1 hP hD hS => ?_)
    have hP : va_P D vwCl (bL bo B1 B2 B3 B4 B5 B6 B7 ++ ([(h0, Sum.inr (3, [Value.ref cu, Value.ref rv, Value.ref bt, Value.int (nI bc), Value.int ho, Value.int fe])), (rv, Sum.inr (5, [Value.int (nI w), Value.int (nI h), Value.ref q1, Value.ref q2, Value.ref q3, Value.ref q4, Value.ref q5, Value.ref q6])), (q5, Sum.inl (cy5, 100, Sum.inl f5)), (cu, Sum.inr (1, [Value.ref cu1, Value.ref cu2, Value.ref cu3, Value.ref cu4, Value.int sc, Value.int to])), (cu1, Sum.inl (cc1, 8, Sum.inl cf1))] : va_W)) H := hP
    have hD : va_D A (bL bo B1 B2 B3 B4 B5 B6 B7 ++ ([(h0, Sum.inr (3, [Value.ref cu, Value.ref rv, Value.ref bt, Value.int (nI bc), Value.int ho, Value.int fe])), (rv, Sum.inr (5, [Value.int (nI w), Value.int (nI h), Value.ref q1, Value.ref q2, Value.ref q3, Value.ref q4, Value.ref q5, Value.ref q6])), (q5, Sum.inl (cy5, 100, Sum.inl f5)), (cu, Sum.inr (1, [Value.ref cu1, Value.ref cu2, Value.ref cu3, Value.ref cu4, Value.int sc, Value.int to])), (cu1, Sum.inl (cc1, 8, Sum.inl cf1))] : va_W)) := hD
    have hw_3 : r_2 = cf1 4 := hw
    refine lv_aload_n hx hb dX3_hasToMove_19 rfl (lv_at hl 1 rfl) ?_
    refine va_get (D := D) (ci := 0) (v := .int (B6 j)) (C := RX0) (T := TX0) (N := 7) hx hb hts inG_X0 hown hK hP j (bL_get (by omega)) rfl 5 (by decide) (hts _ kw_1_195) (fun _ h9 => h9) rfl dX3_hasToMove_20 ?_
    refine lv_aload_n hx hb dX3_hasToMove_23 rfl (lv_at hl 1 rfl) ?_
    refine va_get (D := D) (ci := 0) (v := .int (B7 j)) (C := RX0) (T := TX0) (N := 7) hx hb hts inG_X0 hown hK hP j (bL_get (by omega)) rfl 6 (by decide) (hts _ kw_1_198) (fun _ h9 => h9) rfl dX3_hasToMove_24 ?_
    refine mc_Vi (rest := []) (wr := (bL bo B1 B2 B3 B4 B5 B6 B7 ++ ([(h0, Sum.inr (3, [Value.ref cu, Value.ref rv, Value.ref bt, Value.int (nI bc), Value.int ho, Value.int fe])), (cu, Sum.inr (1, [Value.ref cu1, Value.ref cu2, Value.ref cu3, Value.ref cu4, Value.int sc, Value.int to])), (cu1, Sum.inl (cc1, 8, Sum.inl cf1))] : va_W))) F hK hP hD hS hA (c_hasCrack l D rv q1 q2 q3 q4 q5 q6 cy5 f5 w h r_2 (B6 j) (B7 j) (by omega) (by omega)) ⟨gk_X3_76.1, gk_X3_76.2, Nat.le_of_ble_eq_true rfl, Nat.le_of_ble_eq_true rfl⟩ [11, 12] [0, 1, 2, 3, 4, 5, 6, 7, 8, 9, 10, 13, 14] [1] ⟨rfl, rfl, rfl, rfl, by decide⟩ rfl xT_move (fun _ _ _ => trivial) 11 rfl rfl rfl hl.1 rfl (Nat.le_of_ble_eq_true rfl) dX3_hasToMove_27 ⟨Nat.le_of_ble_eq_true rfl, Nat.le_of_ble_eq_true rfl⟩ (fun r_4 _ H locs hw hK1 hP hD hS => ?_)
    have hP : va_P D vwCl (bL bo B1 B2 B3 B4 B5 B6 B7 ++ ([(h0, Sum.inr (3, [Value.ref cu, Value.ref rv, Value.ref bt, Value.int (nI bc), Value.int ho, Value.int fe])), (cu, Sum.inr (1, [Value.ref cu1, Value.ref cu2, Value.ref cu3, Value.ref cu4, Value.int sc, Value.int to])), (cu1, Sum.inl (cc1, 8, Sum.inl cf1)), (rv, Sum.inr (5, [Value.int (nI w), Value.int (nI h), Value.ref q1, Value.ref q2, Value.ref q3, Value.ref q4, Value.ref q5, Value.ref q6])), (q5, Sum.inl (cy5, 100, Sum.inl f5))] : va_W)) H := hP
    have hD : va_D A (bL bo B1 B2 B3 B4 B5 B6 B7 ++ ([(h0, Sum.inr (3, [Value.ref cu, Value.ref rv, Value.ref bt, Value.int (nI bc), Value.int ho, Value.int fe])), (cu, Sum.inr (1, [Value.ref cu1, Value.ref cu2, Value.ref cu3, Value.ref cu4, Value.int sc, Value.int to])), (cu1, Sum.inl (cc1, 8, Sum.inl cf1)), (rv, Sum.inr (5, [Value.int (nI w), Value.int (nI h), Value.ref q1, Value.ref q2, Value.ref q3, Value.ref q4, Value.ref q5, Value.ref q6])), (q5, Sum.inl (cy5, 100, Sum.inl f5))] : va_W)) := hD
    have hw_5 : r_4 = 0 ∨ r_4 = 1 := hw
    refine lv_if_eq (tgt := 37) hx hb dX3_hasToMove_30 (by decide) (fun c_6 => ?_) (fun c_6 => ?_)
    · skip
      refine lv_iconst (v := 0) hx hb dX3_hasToMove_37 (by decide) ?_
      have hP9 := hP.sub (ws' := (bL bo B1 B2 B3 B4 B5 B6 B7 ++ ([(h0, Sum.inr (3, [Value.ref cu, Value.ref rv, Value.ref bt, Value.int (nI bc), Value.int ho, Value.int fe])), (cu, Sum.inr (1, [Value.ref cu1, Value.ref cu2, Value.ref cu3, Value.ref cu4, Value.int sc, Value.int to])), (cu1, Sum.inl (cc1, 8, Sum.inl cf1)), (rv, Sum.inr (5, [Value.int (nI w), Value.int (nI h), Value.ref q1, Value.ref q2, Value.ref q3, Value.ref q4, Value.ref q5, Value.ref q6])), (q5, Sum.inl (cy5, 100, Sum.inl f5))] : va_W))) [0, 1, 2, 3, 4, 5, 6, 7, 8, 9, 10, 11, 12, 13, 14] rfl
      have hD9 := hD.sub (ws' := (bL bo B1 B2 B3 B4 B5 B6 B7 ++ ([(h0, Sum.inr (3, [Value.ref cu, Value.ref rv, Value.ref bt, Value.int (nI bc), Value.int ho, Value.int fe])), (cu, Sum.inr (1, [Value.ref cu1, Value.ref cu2, Value.ref cu3, Value.ref cu4, Value.int sc, Value.int to])), (cu1, Sum.inl (cc1, 8, Sum.inl cf1)), (rv, Sum.inr (5, [Value.int (nI w), Value.int (nI h), Value.ref q1, Value.ref q2, Value.ref q3, Value.ref q4, Value.ref q5, Value.ref q6])), (q5, Sum.inl (cy5, 100, Sum.inl f5))] : va_W))) [0, 1, 2, 3, 4, 5, 6, 7, 8, 9, 10, 11, 12, 13, 14] (by decide) rfl
      have hK9 := hK.sub (tys' := []) [] rfl
      refine W.widen (k := 0) (n := 0) (by decide) (by decide) ?_
      exact W.zret (v := 0) hx hb hr rfl (fun t ht hW => ⟨⟨0, (), rfl, Or.inl rfl, by rw [ht]; exact hP9, va_K.moved hW.alike hK9, hD9⟩, hS.F ht⟩) hS.2.2 dX3_hasToMove_38
    · skip
      refine lv_iconst (v := 1) hx hb dX3_hasToMove_33 (by decide) ?_
      refine lv_goto (tgt := 38) hx hb dX3_hasToMove_34 (by decide) ?_
      have hP9 := hP.sub (ws' := (bL bo B1 B2 B3 B4 B5 B6 B7 ++ ([(h0, Sum.inr (3, [Value.ref cu, Value.ref rv, Value.ref bt, Value.int (nI bc), Value.int ho, Value.int fe])), (cu, Sum.inr (1, [Value.ref cu1, Value.ref cu2, Value.ref cu3, Value.ref cu4, Value.int sc, Value.int to])), (cu1, Sum.inl (cc1, 8, Sum.inl cf1)), (rv, Sum.inr (5, [Value.int (nI w), Value.int (nI h), Value.ref q1, Value.ref q2, Value.ref q3, Value.ref q4, Value.ref q5, Value.ref q6])), (q5, Sum.inl (cy5, 100, Sum.inl f5))] : va_W))) [0, 1, 2, 3, 4, 5, 6, 7, 8, 9, 10, 11, 12, 13, 14] rfl
      have hD9 := hD.sub (ws' := (bL bo B1 B2 B3 B4 B5 B6 B7 ++ ([(h0, Sum.inr (3, [Value.ref cu, Value.ref rv, Value.ref bt, Value.int (nI bc), Value.int ho, Value.int fe])), (cu, Sum.inr (1, [Value.ref cu1, Value.ref cu2, Value.ref cu3, Value.ref cu4, Value.int sc, Value.int to])), (cu1, Sum.inl (cc1, 8, Sum.inl cf1)), (rv, Sum.inr (5, [Value.int (nI w), Value.int (nI h), Value.ref q1, Value.ref q2, Value.ref q3, Value.ref q4, Value.ref q5, Value.ref q6])), (q5, Sum.inl (cy5, 100, Sum.inl f5))] : va_W))) [0, 1, 2, 3, 4, 5, 6, 7, 8, 9, 10, 11, 12, 13, 14] (by decide) rfl
      have hK9 := hK.sub (tys' := []) [] rfl
      refine W.widen (k := 0) (n := 0) (by decide) (by decide) ?_
      exact W.zret (v := 1) hx hb hr rfl (fun t ht hW => ⟨⟨1, (), rfl, Or.inr rfl, by rw [ht]; exact hP9, va_K.moved hW.alike hK9, hD9⟩, hS.F ht⟩) hS.2.2 dX3_hasToMove_38
theorem dX3_boothsToMove_4 : decode cX3_boothsToMove 4 = .ok (.iload_n 2, 1) := by decide +kernel
theorem dX3_boothsToMove_5 : decode cX3_boothsToMove 5 = .ok (.aload_n 0, 1) := by decide +kernel
theorem dX3_boothsToMove_6 : decode cX3_boothsToMove 6 = .ok (.getfield 36, 3) := by decide +kernel
theorem dX3_boothsToMove_9 : decode cX3_boothsToMove 9 = .ok (.if_icmp .ge 31, 3) := by decide +kernel
theorem dX3_boothsToMove_12 : decode cX3_boothsToMove 12 = .ok (.iload_n 2, 1) := by decide +kernel
theorem dX3_boothsToMove_13 : decode cX3_boothsToMove 13 = .ok (.bipush 10, 2) := by decide +kernel
theorem dX3_boothsToMove_15 : decode cX3_boothsToMove 15 = .ok (.if_icmp .ge 25, 3) := by decide +kernel
theorem dX3_boothsToMove_18 : decode cX3_boothsToMove 18 = .ok (.aload_n 0, 1) := by decide +kernel
theorem dX3_boothsToMove_19 : decode cX3_boothsToMove 19 = .ok (.aload_n 0, 1) := by decide +kernel
theorem dX3_boothsToMove_20 : decode cX3_boothsToMove 20 = .ok (.getfield 27, 3) := by decide +kernel
theorem dX3_boothsToMove_23 : decode cX3_boothsToMove 23 = .ok (.iload_n 2, 1) := by decide +kernel
theorem dX3_boothsToMove_24 : decode cX3_boothsToMove 24 = .ok (.aaload, 1) := by decide +kernel
theorem kw_4_76 : Cond.methodLink RX3 131 yX3_hasToMove ∈ gw := gw_t4 (List.mem_of_getElem? (i := 76) (by decide +kernel)) (by decide +kernel)
theorem kw_4_77 : Cond.instanceMethod yX3_hasToMove ∈ gw := gw_t4 (List.mem_of_getElem? (i := 77) (by decide +kernel)) (by decide +kernel)
theorem kw_4_78 : Cond.selects RX3 yX3_hasToMove yX3_hasToMove ∈ gw := gw_t4 (List.mem_of_getElem? (i := 78) (by decide +kernel)) (by decide +kernel)
theorem kw_4_79 : Cond.code yX3_hasToMove cX3_hasToMove 2 (some .boolean) ∈ gw := gw_t4 (List.mem_of_getElem? (i := 79) (by decide +kernel)) (by decide +kernel)
theorem gk_X3_131 : GoodIn gw (wsV RX3 131 RX3 yX3_hasToMove (.code yX3_hasToMove cX3_hasToMove 2 (some .boolean) :: gw)) ∧ (yX3_hasToMove.cls = RX3 ∧ yX3_hasToMove.cls ≠ "java/lang/invoke/MethodHandle" ∧ yX3_hasToMove.cls ≠ "java/lang/invoke/VarHandle" ∧ (parseMethodDescriptor yX3_hasToMove.desc).map (fun d => d.parameters.length) = some 1) := ⟨gi_V kw_4_76 kw_4_77 kw_4_78 kw_1_6 kw_4_79, by decide +kernel⟩
theorem dX3_boothsToMove_25 : decode cX3_boothsToMove 25 = .ok (.invokevirtual 131, 3) := by decide +kernel
theorem dX3_boothsToMove_28 : decode cX3_boothsToMove 28 = .ok (.ifCond .eq 6, 3) := by decide +kernel
theorem dX3_boothsToMove_34 : decode cX3_boothsToMove 34 = .ok (.iinc 2 1, 3) := by decide +kernel
theorem dX3_boothsToMove_37 : decode cX3_boothsToMove 37 = .ok (.goto (-33), 3) := by decide +kernel
theorem dX3_boothsToMove_31 : decode cX3_boothsToMove 31 = .ok (.iinc 1 1, 3) := by decide +kernel
set_option maxHeartbeats 4000000 in
set_option maxRecDepth 100000 in
theorem lp_toMove {p : Program} {l : Launch} {e : Env} {s : State} {m : MethodId} {args : Array Value} {below : List Frame} {meth : Method} {c : Code} {Q : State → Prop} {A : Nat → Prop} {D : va_G} (F : mFix p s m args c cX3_boothsToMove 3 RX3) (hA : ∀ q, s.heap.size ≤ q → A q) (bo : Nat → Nat) (B1 : Nat → Int32) (B2 : Nat → Int32) (B3 : Nat → Int32) (B4 : Nat → Int32) (B5 : Nat → Int32) (B6 : Nat → Int32) (B7 : Nat → Int32) (h0 : Nat) (cu : Nat) (rv : Nat) (bt : Nat) (bc9 : ClassId) (bc : Nat) (ho : Int32) (fe : Int32) (cu1 : Nat) (cu2 : Nat) (cu3 : Nat) (cu4 : Nat) (cc1 : ClassId) (cf1 : Nat → Int32) (sc : Int32) (to : Int32) (q1 : Nat) (q2 : Nat) (q3 : Nat) (q4 : Nat) (q5 : Nat) (q6 : Nat) (cy5 : ClassId) (f5 : Nat → Int32) (w : Nat) (h : Nat) (hK : va_K D vwCl [(bc9, .object RX0), (cc1, .int), (cy5, .boolean)] s)
    (kx_40 : ∀ (n9 : Int32), ∀ (H : Heap) (locs : List Loc), va_P D vwCl (bL bo B1 B2 B3 B4 B5 B6 B7 ++ ([(h0, Sum.inr (3, [Value.ref cu, Value.ref rv, Value.ref bt, Value.int (nI bc), Value.int ho, Value.int fe])), (bt, Sum.inl (bc9, 10, Sum.inr (Sum.inr (Sum.inr (Sum.inr (fun j => some (bo j))))))), (cu, Sum.inr (1, [Value.ref cu1, Value.ref cu2, Value.ref cu3, Value.ref cu4, Value.int sc, Value.int to])), (cu1, Sum.inl (cc1, 8, Sum.inl cf1)), (rv, Sum.inr (5, [Value.int (nI w), Value.int (nI h), Value.ref q1, Value.ref q2, Value.ref q3, Value.ref q4, Value.ref q5, Value.ref q6])), (q5, Sum.inl (cy5, 100, Sum.inl f5))] : va_W)) H → va_D A (bL bo B1 B2 B3 B4 B5 B6 B7 ++ ([(h0, Sum.inr (3, [Value.ref cu, Value.ref rv, Value.ref bt, Value.int (nI bc), Value.int ho, Value.int fe])), (bt, Sum.inl (bc9, 10, Sum.inr (Sum.inr (Sum.inr (Sum.inr (fun j => some (bo j))))))), (cu, Sum.inr (1, [Value.ref cu1, Value.ref cu2, Value.ref cu3, Value.ref cu4, Value.int sc, Value.int to])), (cu1, Sum.inl (cc1, 8, Sum.inl cf1)), (rv, Sum.inr (5, [Value.int (nI w), Value.int (nI h), Value.ref q1, Value.ref q2, Value.ref q3, Value.ref q4, Value.ref q5, Value.ref q6])), (q5, Sum.inl (cy5, 100, Sum.inl f5))] : va_W)) → va_S A s.heap H locs → ∀ ls : Array Slot, lv_has ls 3 [(1, Value.int n9)] → W p l e ({ frames := 3, cells := 0, slots := 0, locals := 68 }) s m args below meth c H locs 0 0 Q (F0 m 40 ls [])) :
    ∀ n : Nat, ∀ (i : Nat) (n9 : Int32), (i ≤ bc) → (bc ≤ 10) → (w ≤ 10) → (h ≤ 10) → (bc - i) < n → ∀ (H : Heap) (locs : List Loc), va_P D vwCl (bL bo B1 B2 B3 B4 B5 B6 B7 ++ ([(h0, Sum.inr (3, [Value.ref cu, Value.ref rv, Value.ref bt, Value.int (nI bc), Value.int ho, Value.int fe])), (bt, Sum.inl (bc9, 10, Sum.inr (Sum.inr (Sum.inr (Sum.inr (fun j => some (bo j))))))), (cu, Sum.inr (1, [Value.ref cu1, Value.ref cu2, Value.ref cu3, Value.ref cu4, Value.int sc, Value.int to])), (cu1, Sum.inl (cc1, 8, Sum.inl cf1)), (rv, Sum.inr (5, [Value.int (nI w), Value.int (nI h), Value.ref q1, Value.ref q2, Value.ref q3, Value.ref q4, Value.ref q5, Value.ref q6])), (q5, Sum.inl (cy5, 100, Sum.inl f5))] : va_W)) H → va_D A (bL bo B1 B2 B3 B4 B5 B6 B7 ++ ([(h0, Sum.inr (3, [Value.ref cu, Value.ref rv, Value.ref bt, Value.int (nI bc), Value.int ho, Value.int fe])), (bt, Sum.inl (bc9, 10, Sum.inr (Sum.inr (Sum.inr (Sum.inr (fun j => some (bo j))))))), (cu, Sum.inr (1, [Value.ref cu1, Value.ref cu2, Value.ref cu3, Value.ref cu4, Value.int sc, Value.int to])), (cu1, Sum.inl (cc1, 8, Sum.inl cf1)), (rv, Sum.inr (5, [Value.int (nI w), Value.int (nI h), Value.ref q1, Value.ref q2, Value.ref q3, Value.ref q4, Value.ref q5, Value.ref q6])), (q5, Sum.inl (cy5, 100, Sum.inl f5))] : va_W)) → va_S A s.heap H locs → ∀ ls : Array Slot, lv_has ls 3 [(0, Value.ref h0), (1, Value.int n9), (2, Value.int (nI i))] → W p l e ({ frames := 3, cells := 0, slots := 0, locals := 68 }) s m args below meth c H locs 0 0 Q (F0 m 4 ls []) := by
  intro n
  induction n with
  | zero => intro i n9 hi hbc h3 h4 hn; exact absurd hn (Nat.not_lt_zero _)
  | succ n ih =>
    intro i n9 hi hbc h3 h4 hn H locs hP hD hS ls hl
    obtain ⟨hx, hb, hml, hown, hts⟩ := id F
    refine lv_iload_n hx hb dX3_boothsToMove_4 rfl (lv_at hl 2 rfl) ?_
    refine lv_aload_n hx hb dX3_boothsToMove_5 rfl (lv_at hl 0 rfl) ?_
    refine va_get (D := D) (ci := 3) (v := Value.int (nI bc)) (C := RX3) (T := TX3) (N := 6) hx hb hts inG_X3 hown hK hP 10 rfl rfl 3 (by decide) (hts _ kw_1_226) (fun _ h9 => h9) rfl dX3_boothsToMove_6 ?_
    refine lv_icmp_ge (tgt := 40) hx hb dX3_boothsToMove_9 (by decide) (fun c_1 => ?_) (fun c_1 => ?_)
    · skip
      have c_1n : bc ≤ i := (nI_leI (by omega) (by omega)).mp c_1
      have c_1 := Int32.not_lt.mpr c_1
      exact kx_40 n9  H locs (hP.sub [0, 1, 2, 3, 4, 5, 6, 7, 8, 9, 10, 11, 12, 13, 14, 15] rfl) (hD.sub [0, 1, 2, 3, 4, 5, 6, 7, 8, 9, 10, 11, 12, 13, 14, 15] (by decide) rfl) hS ls (lv_sub hl [1] rfl)
    · skip
      have c_1n : i < bc := nb_le (by omega) (by omega) c_1
      have c_1 := Int32.not_le.mp c_1
      refine lv_iload_n hx hb dX3_boothsToMove_12 rfl (lv_at hl 2 rfl) ?_
      refine lv_bipush (v := 10) hx hb dX3_boothsToMove_13 (by decide) ?_
      refine lv_icmp_ge (tgt := 40) hx hb dX3_boothsToMove_15 (by decide) (fun c_2 => ?_) (fun c_2 => ?_)
      · skip
        have c_2n : 10 ≤ i := (nI_leI (by omega) (by omega)).mp c_2
        have c_2 := Int32.not_lt.mpr c_2
        exact kx_40 n9  H locs (hP.sub [0, 1, 2, 3, 4, 5, 6, 7, 8, 9, 10, 11, 12, 13, 14, 15] rfl) (hD.sub [0, 1, 2, 3, 4, 5, 6, 7, 8, 9, 10, 11, 12, 13, 14, 15] (by decide) rfl) hS ls (lv_sub hl [1] rfl)
      · skip
        have c_2n : i < 10 := nb_le (by omega) (by omega) c_2
        have c_2 := Int32.not_le.mp c_2
        refine lv_aload_n hx hb dX3_boothsToMove_18 rfl (lv_at hl 0 rfl) ?_
        refine lv_aload_n hx hb dX3_boothsToMove_19 rfl (lv_at hl 0 rfl) ?_
        refine va_get (D := D) (ci := 3) (v := Value.ref bt) (C := RX3) (T := TX3) (N := 6) hx hb hts inG_X3 hown hK hP 10 rfl rfl 2 (by decide) (hts _ kw_1_223) (fun _ h9 => h9) rfl dX3_boothsToMove_20 ?_
        refine lv_iload_n hx hb dX3_boothsToMove_23 rfl (lv_at hl 2 rfl) ?_
        refine m_aald hx hb hK hP 11 0 rfl rfl i rfl (by omega) (by decide) dX3_boothsToMove_24 ?_
        refine W.eq (g2 := F0 m 25 ls [Value.ref (bo i), Value.ref h0]) rfl ?_
        refine mc_Vi (rest := []) (wr := [(bt, Sum.inl (bc9, 10, Sum.inr (Sum.inr (Sum.inr (Sum.inr (fun j => some (bo j)))))))]) F hK hP hD hS hA (c_hasToMove l D bo B1 B2 B3 B4 B5 B6 B7 h0 cu rv bt bc ho fe cu1 cu2 cu3 cu4 cc1 cf1 sc to q1 q2 q3 q4 q5 q6 cy5 f5 w h i (by omega) (by omega) (by omega)) ⟨gk_X3_131.1, gk_X3_131.2, Nat.le_of_ble_eq_true rfl, Nat.le_of_ble_eq_true rfl⟩ [0, 1, 2, 3, 4, 5, 6, 7, 8, 9, 10, 12, 13, 14, 15] [11] [1, 2] ⟨rfl, rfl, rfl, rfl, by decide⟩ rfl xT_move (fun _ _ _ => trivial) 10 rfl rfl rfl hl.1 rfl (Nat.le_of_ble_eq_true rfl) dX3_boothsToMove_25 ⟨Nat.le_of_ble_eq_true rfl, Nat.le_of_ble_eq_true rfl⟩ (fun r_3 _ H locs hw hK1 hP hD hS => ?_)
        have hP := hP.sub (ws' := (bL bo B1 B2 B3 B4 B5 B6 B7 ++ ([(bt, Sum.inl (bc9, 10, Sum.inr (Sum.inr (Sum.inr (Sum.inr (fun j => some (bo j))))))), (h0, Sum.inr (3, [Value.ref cu, Value.ref rv, Value.ref bt, Value.int (nI bc), Value.int ho, Value.int fe])), (cu, Sum.inr (1, [Value.ref cu1, Value.ref cu2, Value.ref cu3, Value.ref cu4, Value.int sc, Value.int to])), (cu1, Sum.inl (cc1, 8, Sum.inl cf1)), (rv, Sum.inr (5, [Value.int (nI w), Value.int (nI h), Value.ref q1, Value.ref q2, Value.ref q3, Value.ref q4, Value.ref q5, Value.ref q6])), (q5, Sum.inl (cy5, 100, Sum.inl f5))] : va_W))) [1, 2, 3, 4, 5, 6, 7, 8, 9, 10, 0, 11, 12, 13, 14, 15] rfl
        have hD := hD.sub (ws' := (bL bo B1 B2 B3 B4 B5 B6 B7 ++ ([(bt, Sum.inl (bc9, 10, Sum.inr (Sum.inr (Sum.inr (Sum.inr (fun j => some (bo j))))))), (h0, Sum.inr (3, [Value.ref cu, Value.ref rv, Value.ref bt, Value.int (nI bc), Value.int ho, Value.int fe])), (cu, Sum.inr (1, [Value.ref cu1, Value.ref cu2, Value.ref cu3, Value.ref cu4, Value.int sc, Value.int to])), (cu1, Sum.inl (cc1, 8, Sum.inl cf1)), (rv, Sum.inr (5, [Value.int (nI w), Value.int (nI h), Value.ref q1, Value.ref q2, Value.ref q3, Value.ref q4, Value.ref q5, Value.ref q6])), (q5, Sum.inl (cy5, 100, Sum.inl f5))] : va_W))) [1, 2, 3, 4, 5, 6, 7, 8, 9, 10, 0, 11, 12, 13, 14, 15] (by decide) rfl
        have hw_4 : r_3 = 0 ∨ r_3 = 1 := hw
        refine lv_if_eq (tgt := 34) hx hb dX3_boothsToMove_28 (by decide) (fun c_5 => ?_) (fun c_5 => ?_)
        · skip
          refine lv_iinc (v := nI (i + 1)) (lv' := [(2, Value.int (nI (i + 1))), (0, Value.ref h0), (1, Value.int n9)]) hx hb dX3_boothsToMove_34 hl (k := 2) rfl (nI_add i 1) (by decide) rfl (fun ls hl => ?_)
          refine lv_goto (tgt := 4) hx hb dX3_boothsToMove_37 (by decide) ?_
          exact ih (i + 1) n9 (by omega) (by omega) (by omega) (by omega) (by omega) H locs (hP.sub [0, 1, 2, 3, 4, 5, 6, 7, 8, 9, 11, 10, 12, 13, 14, 15] rfl) (hD.sub [0, 1, 2, 3, 4, 5, 6, 7, 8, 9, 11, 10, 12, 13, 14, 15] (by decide) rfl) hS ls (lv_sub hl [1, 2, 0] rfl)
        · skip
          obtain ⟨z_6, ez_6⟩ : ∃ y : Int32, y = n9 + 1 := ⟨_, rfl⟩
          refine lv_iinc (v := z_6) (lv' := [(1, Value.int z_6), (0, Value.ref h0), (2, Value.int (nI i))]) hx hb dX3_boothsToMove_31 hl (k := 1) rfl (by rw [ez_6]; rfl) (by decide) rfl (fun ls hl => ?_)
          refine lv_iinc (v := nI (i + 1)) (lv' := [(2, Value.int (nI (i + 1))), (1, Value.int z_6), (0, Value.ref h0)]) hx hb dX3_boothsToMove_34 hl (k := 2) rfl (nI_add i 1) (by decide) rfl (fun ls hl => ?_)
          refine lv_goto (tgt := 4) hx hb dX3_boothsToMove_37 (by decide) ?_
          exact ih (i + 1) z_6 (by omega) (by omega) (by omega) (by omega) (by omega) H locs (hP.sub [0, 1, 2, 3, 4, 5, 6, 7, 8, 9, 11, 10, 12, 13, 14, 15] rfl) (hD.sub [0, 1, 2, 3, 4, 5, 6, 7, 8, 9, 11, 10, 12, 13, 14, 15] (by decide) rfl) hS ls (lv_sub hl [2, 1, 0] rfl)
theorem dX3_boothsToMove_0 : decode cX3_boothsToMove 0 = .ok (.iconst 0, 1) := by decide +kernel
theorem dX3_boothsToMove_1 : decode cX3_boothsToMove 1 = .ok (.istore_n 1, 1) := by decide +kernel
theorem dX3_boothsToMove_2 : decode cX3_boothsToMove 2 = .ok (.iconst 0, 1) := by decide +kernel
theorem dX3_boothsToMove_3 : decode cX3_boothsToMove 3 = .ok (.istore_n 2, 1) := by decide +kernel
theorem dX3_boothsToMove_40 : decode cX3_boothsToMove 40 = .ok (.iload_n 1, 1) := by decide +kernel
theorem dX3_boothsToMove_41 : decode cX3_boothsToMove 41 = .ok (.ireturn, 1) := by decide +kernel
set_option maxHeartbeats 4000000 in
set_option maxRecDepth 100000 in
theorem c_boothsToMove (l : Launch) (D : va_G) (bo : Nat → Nat) (B1 : Nat → Int32) (B2 : Nat → Int32) (B3 : Nat → Int32) (B4 : Nat → Int32) (B5 : Nat → Int32) (B6 : Nat → Int32) (B7 : Nat → Int32) (h0 : Nat) (cu : Nat) (rv : Nat) (bt : Nat) (bc9 : ClassId) (bc : Nat) (ho : Int32) (fe : Int32) (cu1 : Nat) (cu2 : Nat) (cu3 : Nat) (cu4 : Nat) (cc1 : ClassId) (cf1 : Nat → Int32) (sc : Int32) (to : Int32) (q1 : Nat) (q2 : Nat) (q3 : Nat) (q4 : Nat) (q5 : Nat) (q6 : Nat) (cy5 : ClassId) (f5 : Nat → Int32) (w : Nat) (h : Nat) (hbc : bc ≤ 10) (h3 : w ≤ 10) (h4 : h ≤ 10) : cI l yX3_boothsToMove (.code yX3_boothsToMove cX3_boothsToMove 3 (some .int)) ({ frames := 3, cells := 0, slots := 0, locals := 68 }) D [(bc9, .object RX0), (cc1, .int), (cy5, .boolean)] (bL bo B1 B2 B3 B4 B5 B6 B7 ++ ([(h0, Sum.inr (3, [Value.ref cu, Value.ref rv, Value.ref bt, Value.int (nI bc), Value.int ho, Value.int fe])), (bt, Sum.inl (bc9, 10, Sum.inr (Sum.inr (Sum.inr (Sum.inr (fun j => some (bo j))))))), (cu, Sum.inr (1, [Value.ref cu1, Value.ref cu2, Value.ref cu3, Value.ref cu4, Value.int sc, Value.int to])), (cu1, Sum.inl (cc1, 8, Sum.inl cf1)), (rv, Sum.inr (5, [Value.int (nI w), Value.int (nI h), Value.ref q1, Value.ref q2, Value.ref q3, Value.ref q4, Value.ref q5, Value.ref q6])), (q5, Sum.inl (cy5, 100, Sum.inl f5))] : va_W)) xT [Value.ref h0] (S := Unit) (fun r _ => r = r) (fun _ => []) (fun _ => (bL bo B1 B2 B3 B4 B5 B6 B7 ++ ([(h0, Sum.inr (3, [Value.ref cu, Value.ref rv, Value.ref bt, Value.int (nI bc), Value.int ho, Value.int fe])), (bt, Sum.inl (bc9, 10, Sum.inr (Sum.inr (Sum.inr (Sum.inr (fun j => some (bo j))))))), (cu, Sum.inr (1, [Value.ref cu1, Value.ref cu2, Value.ref cu3, Value.ref cu4, Value.int sc, Value.int to])), (cu1, Sum.inl (cc1, 8, Sum.inl cf1)), (rv, Sum.inr (5, [Value.int (nI w), Value.int (nI h), Value.ref q1, Value.ref q2, Value.ref q3, Value.ref q4, Value.ref q5, Value.ref q6])), (q5, Sum.inl (cy5, 100, Sum.inl f5))] : va_W))) := by
  intro sz
  refine Met.ofW (cc := cX3_boothsToMove) (maxL := 3) (ret := (some .int)) (by decide) rfl ?_
  intro p e s m args below meth c s₁ B hml hv
  obtain ⟨rfl, hsz, hP, hK, hD0, hX⟩ := hv
  have hx := B.exec
  have hb := B.bytes
  have hr := B.returns
  have hts0 := atoms_spec (ws := .code yX3_boothsToMove cX3_boothsToMove 3 (some .int) :: gw) B.pre
  have hts := fun (w : Cond) (h : w ∈ gw) => hts0 w (List.mem_cons_of_mem _ h)
  have hown : s.vm.findClass RX3 = some m.cls := findClass_of_methodNamed B.named
  have hlocks := B.notSynchronized
  have F : mFix p s m _ c cX3_boothsToMove 3 RX3 := ⟨hx, hb, hml, hown, hts⟩
  subst hsz
  have hD := hD0.self (sz := s.heap.size)
  generalize hAe : va_A (bL bo B1 B2 B3 B4 B5 B6 B7 ++ ([(h0, Sum.inr (3, [Value.ref cu, Value.ref rv, Value.ref bt, Value.int (nI bc), Value.int ho, Value.int fe])), (bt, Sum.inl (bc9, 10, Sum.inr (Sum.inr (Sum.inr (Sum.inr (fun j => some (bo j))))))), (cu, Sum.inr (1, [Value.ref cu1, Value.ref cu2, Value.ref cu3, Value.ref cu4, Value.int sc, Value.int to])), (cu1, Sum.inl (cc1, 8, Sum.inl cf1)), (rv, Sum.inr (5, [Value.int (nI w), Value.int (nI h), Value.ref q1, Value.ref q2, Value.ref q3, Value.ref q4, Value.ref q5, Value.ref q6])), (q5, Sum.inl (cy5, 100, Sum.inl f5))] : va_W)) s.heap.size = A at hD hX ⊢
  have hA : ∀ q : Nat, s.heap.size ≤ q → A q := fun q h => by rw [← hAe]; exact Or.inr h
  have hS : va_S A s.heap s.heap [] := va_S.rf
  have hl := lv_entry ([Value.ref h0]) (n := 3) (Nat.le_of_ble_eq_true rfl)
  rw [lg_entry_eq]
  generalize (lg_sl ([Value.ref h0]) ++ List.replicate (3 - (lg_sl ([Value.ref h0])).length) Slot.unset).toArray = ls at hl ⊢
  have hl : lv_has ls 3 [(0, Value.ref h0)] := hl
  have hP : va_P D vwCl (bL bo B1 B2 B3 B4 B5 B6 B7 ++ ([(h0, Sum.inr (3, [Value.ref cu, Value.ref rv, Value.ref bt, Value.int (nI bc), Value.int ho, Value.int fe])), (bt, Sum.inl (bc9, 10, Sum.inr (Sum.inr (Sum.inr (Sum.inr (fun j => some (bo j))))))), (cu, Sum.inr (1, [Value.ref cu1, Value.ref cu2, Value.ref cu3, Value.ref cu4, Value.int sc, Value.int to])), (cu1, Sum.inl (cc1, 8, Sum.inl cf1)), (rv, Sum.inr (5, [Value.int (nI w), Value.int (nI h), Value.ref q1, Value.ref q2, Value.ref q3, Value.ref q4, Value.ref q5, Value.ref q6])), (q5, Sum.inl (cy5, 100, Sum.inl f5))] : va_W)) s.heap := hP
  refine lv_iconst (v := 0) hx hb dX3_boothsToMove_0 (by decide) ?_
  refine lv_istore_n (lv' := [(1, Value.int 0), (0, Value.ref h0)]) hx hb dX3_boothsToMove_1 rfl hl (by decide) rfl (fun ls hl => ?_)
  refine lv_iconst (v := 0) hx hb dX3_boothsToMove_2 (by decide) ?_
  refine lv_istore_n (lv' := [(2, Value.int 0), (1, Value.int 0), (0, Value.ref h0)]) hx hb dX3_boothsToMove_3 rfl hl (by decide) rfl (fun ls hl => ?_)
  refine lp_toMove F hA bo B1 B2 B3 B4 B5 B6 B7 h0 cu rv bt bc9 bc ho fe cu1 cu2 cu3 cu4 cc1 cf1 sc to q1 q2 q3 q4 q5 q6 cy5 f5 w h (hK.sub [0, 1, 2] rfl) (fun n9_1  H locs hP hD hS ls hl => ?_) _ 0 0 (by omega) (by omega) (by omega) (by omega) (Nat.lt_succ_self _) _ _ (hP.sub [0, 1, 2, 3, 4, 5, 6, 7, 8, 9, 10, 11, 12, 13, 14, 15] rfl) (hD.sub [0, 1, 2, 3, 4, 5, 6, 7, 8, 9, 10, 11, 12, 13, 14, 15] (by decide) rfl) hS ls (lv_sub hl [2, 1, 0] rfl)
  refine lv_iload_n hx hb dX3_boothsToMove_40 rfl (lv_at hl 0 rfl) ?_
  have hP9 := hP.sub (ws' := (bL bo B1 B2 B3 B4 B5 B6 B7 ++ ([(h0, Sum.inr (3, [Value.ref cu, Value.ref rv, Value.ref bt, Value.int (nI bc), Value.int ho, Value.int fe])), (bt, Sum.inl (bc9, 10, Sum.inr (Sum.inr (Sum.inr (Sum.inr (fun j => some (bo j))))))), (cu, Sum.inr (1, [Value.ref cu1, Value.ref cu2, Value.ref cu3, Value.ref cu4, Value.int sc, Value.int to])), (cu1, Sum.inl (cc1, 8, Sum.inl cf1)), (rv, Sum.inr (5, [Value.int (nI w), Value.int (nI h), Value.ref q1, Value.ref q2, Value.ref q3, Value.ref q4, Value.ref q5, Value.ref q6])), (q5, Sum.inl (cy5, 100, Sum.inl f5))] : va_W))) [0, 1, 2, 3, 4, 5, 6, 7, 8, 9, 10, 11, 12, 13, 14, 15] rfl
  have hD9 := hD.sub (ws' := (bL bo B1 B2 B3 B4 B5 B6 B7 ++ ([(h0, Sum.inr (3, [Value.ref cu, Value.ref rv, Value.ref bt, Value.int (nI bc), Value.int ho, Value.int fe])), (bt, Sum.inl (bc9, 10, Sum.inr (Sum.inr (Sum.inr (Sum.inr (fun j => some (bo j))))))), (cu, Sum.inr (1, [Value.ref cu1, Value.ref cu2, Value.ref cu3, Value.ref cu4, Value.int sc, Value.int to])), (cu1, Sum.inl (cc1, 8, Sum.inl cf1)), (rv, Sum.inr (5, [Value.int (nI w), Value.int (nI h), Value.ref q1, Value.ref q2, Value.ref q3, Value.ref q4, Value.ref q5, Value.ref q6])), (q5, Sum.inl (cy5, 100, Sum.inl f5))] : va_W))) [0, 1, 2, 3, 4, 5, 6, 7, 8, 9, 10, 11, 12, 13, 14, 15] (by decide) rfl
  have hK9 := hK.sub (tys' := []) [] rfl
  refine W.widen (k := 0) (n := 0) (by decide) (by decide) ?_
  exact W.iret (v := n9_1) hx hb hr (fun t ht hW => ⟨⟨n9_1, (), rfl, rfl, by rw [ht]; exact hP9, va_K.moved hW.alike hK9, hD9⟩, hS.F ht⟩) hS.2.2 dX3_boothsToMove_41
theorem dX3_boothsInState_4 : decode cX3_boothsInState 4 = .ok (.iload_n 3, 1) := by decide +kernel
theorem dX3_boothsInState_5 : decode cX3_boothsInState 5 = .ok (.aload_n 0, 1) := by decide +kernel
theorem dX3_boothsInState_6 : decode cX3_boothsInState 6 = .ok (.getfield 36, 3) := by decide +kernel
theorem dX3_boothsInState_9 : decode cX3_boothsInState 9 = .ok (.if_icmp .ge 31, 3) := by decide +kernel
theorem dX3_boothsInState_12 : decode cX3_boothsInState 12 = .ok (.iload_n 3, 1) := by decide +kernel
theorem dX3_boothsInState_13 : decode cX3_boothsInState 13 = .ok (.bipush 10, 2) := by decide +kernel
theorem dX3_boothsInState_15 : decode cX3_boothsInState 15 = .ok (.if_icmp .ge 25, 3) := by decide +kernel
theorem dX3_boothsInState_18 : decode cX3_boothsInState 18 = .ok (.aload_n 0, 1) := by decide +kernel
theorem dX3_boothsInState_19 : decode cX3_boothsInState 19 = .ok (.getfield 27, 3) := by decide +kernel
theorem dX3_boothsInState_22 : decode cX3_boothsInState 22 = .ok (.iload_n 3, 1) := by decide +kernel
theorem dX3_boothsInState_23 : decode cX3_boothsInState 23 = .ok (.aaload, 1) := by decide +kernel
theorem dX3_boothsInState_24 : decode cX3_boothsInState 24 = .ok (.getfield 59, 3) := by decide +kernel
theorem dX3_boothsInState_27 : decode cX3_boothsInState 27 = .ok (.iload_n 1, 1) := by decide +kernel
theorem dX3_boothsInState_28 : decode cX3_boothsInState 28 = .ok (.if_icmp .ne 6, 3) := by decide +kernel
theorem dX3_boothsInState_34 : decode cX3_boothsInState 34 = .ok (.iinc 3 1, 3) := by decide +kernel
theorem dX3_boothsInState_37 : decode cX3_boothsInState 37 = .ok (.goto (-33), 3) := by decide +kernel
theorem dX3_boothsInState_31 : decode cX3_boothsInState 31 = .ok (.iinc 2 1, 3) := by decide +kernel
set_option maxHeartbeats 4000000 in
set_option maxRecDepth 100000 in
theorem lp_inState {p : Program} {l : Launch} {e : Env} {s : State} {m : MethodId} {args : Array Value} {below : List Frame} {meth : Method} {c : Code} {Q : State → Prop} {A : Nat → Prop} {D : va_G} (F : mFix p s m args c cX3_boothsInState 4 RX3) (hA : ∀ q, s.heap.size ≤ q → A q) (bo : Nat → Nat) (B1 : Nat → Int32) (B2 : Nat → Int32) (B3 : Nat → Int32) (B4 : Nat → Int32) (B5 : Nat → Int32) (B6 : Nat → Int32) (B7 : Nat → Int32) (h0 : Nat) (cu : Nat) (rv : Nat) (bt : Nat) (bc9 : ClassId) (bc : Nat) (ho : Int32) (fe : Int32) (x : Int32) (hK : va_K D vwCl [(bc9, .object RX0)] s)
    (kx_40 : ∀ (n9 : Int32), ∀ (H : Heap) (locs : List Loc), va_P D vwCl (bL bo B1 B2 B3 B4 B5 B6 B7 ++ ([(h0, Sum.inr (3, [Value.ref cu, Value.ref rv, Value.ref bt, Value.int (nI bc), Value.int ho, Value.int fe])), (bt, Sum.inl (bc9, 10, Sum.inr (Sum.inr (Sum.inr (Sum.inr (fun j => some (bo j)))))))] : va_W)) H → va_D A (bL bo B1 B2 B3 B4 B5 B6 B7 ++ ([(h0, Sum.inr (3, [Value.ref cu, Value.ref rv, Value.ref bt, Value.int (nI bc), Value.int ho, Value.int fe])), (bt, Sum.inl (bc9, 10, Sum.inr (Sum.inr (Sum.inr (Sum.inr (fun j => some (bo j)))))))] : va_W)) → va_S A s.heap H locs → ∀ ls : Array Slot, lv_has ls 4 [(2, Value.int n9)] → W p l e ({ frames := 0, cells := 0, slots := 0, locals := 0 }) s m args below meth c H locs 0 0 Q (F0 m 40 ls [])) :
    ∀ n : Nat, ∀ (i : Nat) (n9 : Int32), (i ≤ bc) → (bc ≤ 10) → (bc - i) < n → ∀ (H : Heap) (locs : List Loc), va_P D vwCl (bL bo B1 B2 B3 B4 B5 B6 B7 ++ ([(h0, Sum.inr (3, [Value.ref cu, Value.ref rv, Value.ref bt, Value.int (nI bc), Value.int ho, Value.int fe])), (bt, Sum.inl (bc9, 10, Sum.inr (Sum.inr (Sum.inr (Sum.inr (fun j => some (bo j)))))))] : va_W)) H → va_D A (bL bo B1 B2 B3 B4 B5 B6 B7 ++ ([(h0, Sum.inr (3, [Value.ref cu, Value.ref rv, Value.ref bt, Value.int (nI bc), Value.int ho, Value.int fe])), (bt, Sum.inl (bc9, 10, Sum.inr (Sum.inr (Sum.inr (Sum.inr (fun j => some (bo j)))))))] : va_W)) → va_S A s.heap H locs → ∀ ls : Array Slot, lv_has ls 4 [(0, Value.ref h0), (1, Value.int x), (2, Value.int n9), (3, Value.int (nI i))] → W p l e ({ frames := 0, cells := 0, slots := 0, locals := 0 }) s m args below meth c H locs 0 0 Q (F0 m 4 ls []) := by
  intro n
  induction n with
  | zero => intro i n9 hi hbc hn; exact absurd hn (Nat.not_lt_zero _)
  | succ n ih =>
    intro i n9 hi hbc hn H locs hP hD hS ls hl
    obtain ⟨hx, hb, hml, hown, hts⟩ := id F
    refine lv_iload_n hx hb dX3_boothsInState_4 rfl (lv_at hl 3 rfl) ?_
    refine lv_aload_n hx hb dX3_boothsInState_5 rfl (lv_at hl 0 rfl) ?_
    refine va_get (D := D) (ci := 3) (v := Value.int (nI bc)) (C := RX3) (T := TX3) (N := 6) hx hb hts inG_X3 hown hK hP 10 rfl rfl 3 (by decide) (hts _ kw_1_226) (fun _ h9 => h9) rfl dX3_boothsInState_6 ?_
    refine lv_icmp_ge (tgt := 40) hx hb dX3_boothsInState_9 (by decide) (fun c_1 => ?_) (fun c_1 => ?_)
    · skip
      have c_1n : bc ≤ i := (nI_leI (by omega) (by omega)).mp c_1
      have c_1 := Int32.not_lt.mpr c_1
      exact kx_40 n9  H locs (hP.sub [0, 1, 2, 3, 4, 5, 6, 7, 8, 9, 10, 11] rfl) (hD.sub [0, 1, 2, 3, 4, 5, 6, 7, 8, 9, 10, 11] (by decide) rfl) hS ls (lv_sub hl [2] rfl)
    · skip
      have c_1n : i < bc := nb_le (by omega) (by omega) c_1
      have c_1 := Int32.not_le.mp c_1
      refine lv_iload_n hx hb dX3_boothsInState_12 rfl (lv_at hl 3 rfl) ?_
      refine lv_bipush (v := 10) hx hb dX3_boothsInState_13 (by decide) ?_
      refine lv_icmp_ge (tgt := 40) hx hb dX3_boothsInState_15 (by decide) (fun c_2 => ?_) (fun c_2 => ?_)
      · skip
        have c_2n : 10 ≤ i := (nI_leI (by omega) (by omega)).mp c_2
        have c_2 := Int32.not_lt.mpr c_2
        exact kx_40 n9  H locs (hP.sub [0, 1, 2, 3, 4, 5, 6, 7, 8, 9, 10, 11] rfl) (hD.sub [0, 1, 2, 3, 4, 5, 6, 7, 8, 9, 10, 11] (by decide) rfl) hS ls (lv_sub hl [2] rfl)
      · skip
        have c_2n : i < 10 := nb_le (by omega) (by omega) c_2
        have c_2 := Int32.not_le.mp c_2
        refine lv_aload_n hx hb dX3_boothsInState_18 rfl (lv_at hl 0 rfl) ?_
        refine va_get (D := D) (ci := 3) (v := Value.ref bt) (C := RX3) (T := TX3) (N := 6) hx hb hts inG_X3 hown hK hP 10 rfl rfl 2 (by decide) (hts _ kw_1_223) (fun _ h9 => h9) rfl dX3_boothsInState_19 ?_
        refine lv_iload_n hx hb dX3_boothsInState_22 rfl (lv_at hl 3 rfl) ?_
        refine m_aald hx hb hK hP 11 0 rfl rfl i rfl (by omega) (by decide) dX3_boothsInState_23 ?_
        refine W.eq (g2 := F0 m 24 ls [Value.ref (bo i)]) rfl ?_
        refine va_get (D := D) (ci := 0) (v := .int (B5 i)) (C := RX0) (T := TX0) (N := 7) hx hb hts inG_X0 hown hK hP i (bL_get (by omega)) rfl 4 (by decide) (hts _ kw_1_192) (fun _ h9 => h9) rfl dX3_boothsInState_24 ?_
        refine lv_iload_n hx hb dX3_boothsInState_27 rfl (lv_at hl 1 rfl) ?_
        refine lv_icmp_ne (tgt := 34) hx hb dX3_boothsInState_28 (by decide) (fun c_3 => ?_) (fun c_3 => ?_)
        · skip
          refine lv_iinc (v := nI (i + 1)) (lv' := [(3, Value.int (nI (i + 1))), (0, Value.ref h0), (1, Value.int x), (2, Value.int n9)]) hx hb dX3_boothsInState_34 hl (k := 3) rfl (nI_add i 1) (by decide) rfl (fun ls hl => ?_)
          refine lv_goto (tgt := 4) hx hb dX3_boothsInState_37 (by decide) ?_
          exact ih (i + 1) n9 (by omega) (by omega) (by omega) H locs (hP.sub [0, 1, 2, 3, 4, 5, 6, 7, 8, 9, 10, 11] rfl) (hD.sub [0, 1, 2, 3, 4, 5, 6, 7, 8, 9, 10, 11] (by decide) rfl) hS ls (lv_sub hl [1, 2, 3, 0] rfl)
        · skip
          obtain ⟨z_4, ez_4⟩ : ∃ y : Int32, y = n9 + 1 := ⟨_, rfl⟩
          refine lv_iinc (v := z_4) (lv' := [(2, Value.int z_4), (0, Value.ref h0), (1, Value.int x), (3, Value.int (nI i))]) hx hb dX3_boothsInState_31 hl (k := 2) rfl (by rw [ez_4]; rfl) (by decide) rfl (fun ls hl => ?_)
          refine lv_iinc (v := nI (i + 1)) (lv' := [(3, Value.int (nI (i + 1))), (2, Value.int z_4), (0, Value.ref h0), (1, Value.int x)]) hx hb dX3_boothsInState_34 hl (k := 3) rfl (nI_add i 1) (by decide) rfl (fun ls hl => ?_)
          refine lv_goto (tgt := 4) hx hb dX3_boothsInState_37 (by decide) ?_
          exact ih (i + 1) z_4 (by omega) (by omega) (by omega) H locs (hP.sub [0, 1, 2, 3, 4, 5, 6, 7, 8, 9, 10, 11] rfl) (hD.sub [0, 1, 2, 3, 4, 5, 6, 7, 8, 9, 10, 11] (by decide) rfl) hS ls (lv_sub hl [2, 3, 1, 0] rfl)
theorem dX3_boothsInState_0 : decode cX3_boothsInState 0 = .ok (.iconst 0, 1) := by decide +kernel
theorem dX3_boothsInState_1 : decode cX3_boothsInState 1 = .ok (.istore_n 2, 1) := by decide +kernel
theorem dX3_boothsInState_2 : decode cX3_boothsInState 2 = .ok (.iconst 0, 1) := by decide +kernel
theorem dX3_boothsInState_3 : decode cX3_boothsInState 3 = .ok (.istore_n 3, 1) := by decide +kernel
theorem dX3_boothsInState_40 : decode cX3_boothsInState 40 = .ok (.iload_n 2, 1) := by decide +kernel
theorem dX3_boothsInState_41 : decode cX3_boothsInState 41 = .ok (.ireturn, 1) := by decide +kernel
set_option maxHeartbeats 4000000 in
set_option maxRecDepth 100000 in
theorem c_inState (l : Launch) (D : va_G) (bo : Nat → Nat) (B1 : Nat → Int32) (B2 : Nat → Int32) (B3 : Nat → Int32) (B4 : Nat → Int32) (B5 : Nat → Int32) (B6 : Nat → Int32) (B7 : Nat → Int32) (h0 : Nat) (cu : Nat) (rv : Nat) (bt : Nat) (bc9 : ClassId) (bc : Nat) (ho : Int32) (fe : Int32) (x : Int32) (hbc : bc ≤ 10) : cI l yX3_boothsInState (.code yX3_boothsInState cX3_boothsInState 4 (some .int)) ({ frames := 0, cells := 0, slots := 0, locals := 0 }) D [(bc9, .object RX0)] (bL bo B1 B2 B3 B4 B5 B6 B7 ++ ([(h0, Sum.inr (3, [Value.ref cu, Value.ref rv, Value.ref bt, Value.int (nI bc), Value.int ho, Value.int fe])), (bt, Sum.inl (bc9, 10, Sum.inr (Sum.inr (Sum.inr (Sum.inr (fun j => some (bo j)))))))] : va_W)) xT [Value.ref h0, Value.int x] (S := Unit) (fun r _ => r = r) (fun _ => []) (fun _ => (bL bo B1 B2 B3 B4 B5 B6 B7 ++ ([(h0, Sum.inr (3, [Value.ref cu, Value.ref rv, Value.ref bt, Value.int (nI bc), Value.int ho, Value.int fe])), (bt, Sum.inl (bc9, 10, Sum.inr (Sum.inr (Sum.inr (Sum.inr (fun j => some (bo j)))))))] : va_W))) := by
  intro sz
  refine Met.ofW (cc := cX3_boothsInState) (maxL := 4) (ret := (some .int)) (by decide) rfl ?_
  intro p e s m args below meth c s₁ B hml hv
  obtain ⟨rfl, hsz, hP, hK, hD0, hX⟩ := hv
  have hx := B.exec
  have hb := B.bytes
  have hr := B.returns
  have hts0 := atoms_spec (ws := .code yX3_boothsInState cX3_boothsInState 4 (some .int) :: gw) B.pre
  have hts := fun (w : Cond) (h : w ∈ gw) => hts0 w (List.mem_cons_of_mem _ h)
  have hown : s.vm.findClass RX3 = some m.cls := findClass_of_methodNamed B.named
  have hlocks := B.notSynchronized
  have F : mFix p s m _ c cX3_boothsInState 4 RX3 := ⟨hx, hb, hml, hown, hts⟩
  subst hsz
  have hD := hD0.self (sz := s.heap.size)
  generalize hAe : va_A (bL bo B1 B2 B3 B4 B5 B6 B7 ++ ([(h0, Sum.inr (3, [Value.ref cu, Value.ref rv, Value.ref bt, Value.int (nI bc), Value.int ho, Value.int fe])), (bt, Sum.inl (bc9, 10, Sum.inr (Sum.inr (Sum.inr (Sum.inr (fun j => some (bo j)))))))] : va_W)) s.heap.size = A at hD hX ⊢
  have hA : ∀ q : Nat, s.heap.size ≤ q → A q := fun q h => by rw [← hAe]; exact Or.inr h
  have hS : va_S A s.heap s.heap [] := va_S.rf
  have hl := lv_entry ([Value.ref h0, Value.int x]) (n := 4) (Nat.le_of_ble_eq_true rfl)
  rw [lg_entry_eq]
  generalize (lg_sl ([Value.ref h0, Value.int x]) ++ List.replicate (4 - (lg_sl ([Value.ref h0, Value.int x])).length) Slot.unset).toArray = ls at hl ⊢
  have hl : lv_has ls 4 [(0, Value.ref h0), (1, Value.int x)] := hl
  have hP : va_P D vwCl (bL bo B1 B2 B3 B4 B5 B6 B7 ++ ([(h0, Sum.inr (3, [Value.ref cu, Value.ref rv, Value.ref bt, Value.int (nI bc), Value.int ho, Value.int fe])), (bt, Sum.inl (bc9, 10, Sum.inr (Sum.inr (Sum.inr (Sum.inr (fun j => some (bo j)))))))] : va_W)) s.heap := hP
  refine lv_iconst (v := 0) hx hb dX3_boothsInState_0 (by decide) ?_
  refine lv_istore_n (lv' := [(2, Value.int 0), (0, Value.ref h0), (1, Value.int x)]) hx hb dX3_boothsInState_1 rfl hl (by decide) rfl (fun ls hl => ?_)
  refine lv_iconst (v := 0) hx hb dX3_boothsInState_2 (by decide) ?_
  refine lv_istore_n (lv' := [(3, Value.int 0), (2, Value.int 0), (0, Value.ref h0), (1, Value.int x)]) hx hb dX3_boothsInState_3 rfl hl (by decide) rfl (fun ls hl => ?_)
  refine lp_inState F hA bo B1 B2 B3 B4 B5 B6 B7 h0 cu rv bt bc9 bc ho fe x (hK.sub [0] rfl) (fun n9_1  H locs hP hD hS ls hl => ?_) _ 0 0 (by omega) (by omega) (Nat.lt_succ_self _) _ _ (hP.sub [0, 1, 2, 3, 4, 5, 6, 7, 8, 9, 10, 11] rfl) (hD.sub [0, 1, 2, 3, 4, 5, 6, 7, 8, 9, 10, 11] (by decide) rfl) hS ls (lv_sub hl [2, 3, 1, 0] rfl)
  refine lv_iload_n hx hb dX3_boothsInState_40 rfl (lv_at hl 0 rfl) ?_
  have hP9 := hP.sub (ws' := (bL bo B1 B2 B3 B4 B5 B6 B7 ++ ([(h0, Sum.inr (3, [Value.ref cu, Value.ref rv, Value.ref bt, Value.int (nI bc), Value.int ho, Value.int fe])), (bt, Sum.inl (bc9, 10, Sum.inr (Sum.inr (Sum.inr (Sum.inr (fun j => some (bo j)))))))] : va_W))) [0, 1, 2, 3, 4, 5, 6, 7, 8, 9, 10, 11] rfl
  have hD9 := hD.sub (ws' := (bL bo B1 B2 B3 B4 B5 B6 B7 ++ ([(h0, Sum.inr (3, [Value.ref cu, Value.ref rv, Value.ref bt, Value.int (nI bc), Value.int ho, Value.int fe])), (bt, Sum.inl (bc9, 10, Sum.inr (Sum.inr (Sum.inr (Sum.inr (fun j => some (bo j)))))))] : va_W))) [0, 1, 2, 3, 4, 5, 6, 7, 8, 9, 10, 11] (by decide) rfl
  have hK9 := hK.sub (tys' := []) [] rfl
  refine W.widen (k := 0) (n := 0) (by decide) (by decide) ?_
  exact W.iret (v := n9_1) hx hb hr (fun t ht hW => ⟨⟨n9_1, (), rfl, rfl, by rw [ht]; exact hP9, va_K.moved hW.alike hK9, hD9⟩, hS.F ht⟩) hS.2.2 dX3_boothsInState_41
