theorem dL_law_23 : decode cL_law 23 = .ok (.iload 4, 2) := by decide +kernel
theorem dL_law_25 : decode cL_law 25 = .ok (.aload_n 0, 1) := by decide +kernel
theorem dL_law_26 : decode cL_law 26 = .ok (.arraylength, 1) := by decide +kernel
theorem dL_law_27 : decode cL_law 27 = .ok (.bipush 7, 2) := by decide +kernel
theorem dL_law_29 : decode cL_law 29 = .ok (.isub, 1) := by decide +kernel
theorem dL_law_30 : decode cL_law 30 = .ok (.if_icmp .gt 659, 3) := by decide +kernel
theorem dL_law_33 : decode cL_law 33 = .ok (.aload_n 0, 1) := by decide +kernel
theorem dL_law_34 : decode cL_law 34 = .ok (.iload 4, 2) := by decide +kernel
theorem dL_law_36 : decode cL_law 36 = .ok (.iaload, 1) := by decide +kernel
theorem dL_law_37 : decode cL_law 37 = .ok (.bipush 15, 2) := by decide +kernel
theorem dL_law_39 : decode cL_law 39 = .ok (.iand, 1) := by decide +kernel
theorem dL_law_40 : decode cL_law 40 = .ok (.tableswitch 643 0 14 #[76, 149, 174, 199, 236, 323, 388, 437, 462, 487, 500, 513, 526, 578, 618], 76) := by decide +kernel
theorem dL_law_683 : decode cL_law 683 = .ok (.iinc 4 7, 3) := by decide +kernel
theorem dL_law_686 : decode cL_law 686 = .ok (.goto (-663), 3) := by decide +kernel
theorem kw_1_25 : Cond.instantiable RX9 6 ∈ gw := gw_t1 (List.mem_of_getElem? (i := 25) (by decide +kernel)) (by decide +kernel)
theorem kw_4_190 : Cond.instantiable RX10 37 ∈ gw := gw_t4 (List.mem_of_getElem? (i := 190) (by decide +kernel)) (by decide +kernel)
theorem kw_1_24 : Cond.classLink RL 8 RX9 ∈ gw := gw_t1 (List.mem_of_getElem? (i := 24) (by decide +kernel)) (by decide +kernel)
theorem dL_law_0 : decode cL_law 0 = .ok (.new 8, 3) := by decide +kernel
theorem dL_law_3 : decode cL_law 3 = .ok (.dup, 1) := by decide +kernel
theorem kw_1_28 : Cond.code yX9_init cX9_init 1 none ∈ gw := gw_t1 (List.mem_of_getElem? (i := 28) (by decide +kernel)) (by decide +kernel)
theorem kw_1_26 : Cond.methodLink RL 21 yX9_init ∈ gw := gw_t1 (List.mem_of_getElem? (i := 26) (by decide +kernel)) (by decide +kernel)
theorem kw_1_27 : Cond.instanceMethod yX9_init ∈ gw := gw_t1 (List.mem_of_getElem? (i := 27) (by decide +kernel)) (by decide +kernel)
theorem gk_L_21 : (Cond.code yX9_init cX9_init 1 none ∈ gw ∧ Cond.methodLink RL 21 yX9_init ∈ gw ∧ Cond.instanceMethod yX9_init ∈ gw ∧ Cond.initialized yX9_init.cls ∈ gw) ∧ yX9_init.name = "<init>" ∧ (yX9_init.cls ≠ "java/lang/invoke/MethodHandle" ∧ yX9_init.cls ≠ "java/lang/invoke/VarHandle" ∧ (parseMethodDescriptor yX9_init.desc).map (fun d => d.parameters.length) = some 0) := ⟨⟨kw_1_28, kw_1_26, kw_1_27, kw_1_1⟩, rfl, by decide +kernel⟩
theorem dL_law_4 : decode cL_law 4 = .ok (.invokespecial 21, 3) := by decide +kernel
theorem dL_law_7 : decode cL_law 7 = .ok (.astore_n 1, 1) := by decide +kernel
theorem kw_4_189 : Cond.classLink RL 22 RX10 ∈ gw := gw_t4 (List.mem_of_getElem? (i := 189) (by decide +kernel)) (by decide +kernel)
theorem dL_law_8 : decode cL_law 8 = .ok (.new 22, 3) := by decide +kernel
theorem dL_law_11 : decode cL_law 11 = .ok (.dup, 1) := by decide +kernel
theorem kw_4_193 : Cond.code yX10_init cX10_init 1 none ∈ gw := gw_t4 (List.mem_of_getElem? (i := 193) (by decide +kernel)) (by decide +kernel)
theorem kw_4_191 : Cond.methodLink RL 24 yX10_init ∈ gw := gw_t4 (List.mem_of_getElem? (i := 191) (by decide +kernel)) (by decide +kernel)
theorem kw_4_192 : Cond.instanceMethod yX10_init ∈ gw := gw_t4 (List.mem_of_getElem? (i := 192) (by decide +kernel)) (by decide +kernel)
theorem gk_L_24 : (Cond.code yX10_init cX10_init 1 none ∈ gw ∧ Cond.methodLink RL 24 yX10_init ∈ gw ∧ Cond.instanceMethod yX10_init ∈ gw ∧ Cond.initialized yX10_init.cls ∈ gw) ∧ yX10_init.name = "<init>" ∧ (yX10_init.cls ≠ "java/lang/invoke/MethodHandle" ∧ yX10_init.cls ≠ "java/lang/invoke/VarHandle" ∧ (parseMethodDescriptor yX10_init.desc).map (fun d => d.parameters.length) = some 0) := ⟨⟨kw_4_193, kw_4_191, kw_4_192, kw_1_11⟩, rfl, by decide +kernel⟩
theorem dL_law_12 : decode cL_law 12 = .ok (.invokespecial 24, 3) := by decide +kernel
theorem dL_law_15 : decode cL_law 15 = .ok (.astore_n 2, 1) := by decide +kernel
theorem dL_law_16 : decode cL_law 16 = .ok (.iconst 1, 1) := by decide +kernel
theorem kw_6_20 : Cond.arrayClass .long ∈ gw := gw_t6 (List.mem_of_getElem? (i := 20) (by decide +kernel)) (by decide +kernel)
theorem dL_law_17 : decode cL_law 17 = .ok (.newarray .long, 2) := by decide +kernel
theorem dL_law_19 : decode cL_law 19 = .ok (.astore_n 3, 1) := by decide +kernel
theorem dL_law_20 : decode cL_law 20 = .ok (.iconst 0, 1) := by decide +kernel
theorem dL_law_21 : decode cL_law 21 = .ok (.istore 4, 2) := by decide +kernel
theorem dL_law_689 : decode cL_law 689 = .ok (.iconst 1, 1) := by decide +kernel
theorem dL_law_690 : decode cL_law 690 = .ok (.ireturn, 1) := by decide +kernel
