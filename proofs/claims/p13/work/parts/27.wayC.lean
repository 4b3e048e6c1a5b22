theorem dX8_leastMinutes_19 : decode cX8_leastMinutes 19 = .ok (.iload_n 3, 1) := by decide +kernel
theorem dX8_leastMinutes_20 : decode cX8_leastMinutes 20 = .ok (.iconst 1, 1) := by decide +kernel
theorem dX8_leastMinutes_21 : decode cX8_leastMinutes 21 = .ok (.aload_n 1, 1) := by decide +kernel
theorem dX8_leastMinutes_22 : decode cX8_leastMinutes 22 = .ok (.getfield 71, 3) := by decide +kernel
theorem dX8_leastMinutes_25 : decode cX8_leastMinutes 25 = .ok (.ishl, 1) := by decide +kernel
theorem dX8_leastMinutes_26 : decode cX8_leastMinutes 26 = .ok (.if_icmp .ge 38, 3) := by decide +kernel
theorem dX8_leastMinutes_29 : decode cX8_leastMinutes 29 = .ok (.iload_n 3, 1) := by decide +kernel
theorem dX8_leastMinutes_30 : decode cX8_leastMinutes 30 = .ok (.aload_n 0, 1) := by decide +kernel
theorem dX8_leastMinutes_31 : decode cX8_leastMinutes 31 = .ok (.getfield 74, 3) := by decide +kernel
theorem dX8_leastMinutes_34 : decode cX8_leastMinutes 34 = .ok (.iconst (-1), 1) := by decide +kernel
theorem dX8_leastMinutes_35 : decode cX8_leastMinutes 35 = .ok (.ixor, 1) := by decide +kernel
theorem dX8_leastMinutes_36 : decode cX8_leastMinutes 36 = .ok (.iand, 1) := by decide +kernel
theorem dX8_leastMinutes_37 : decode cX8_leastMinutes 37 = .ok (.ifCond .ne 21, 3) := by decide +kernel
theorem dX8_leastMinutes_58 : decode cX8_leastMinutes 58 = .ok (.iinc 3 1, 3) := by decide +kernel
theorem dX8_leastMinutes_61 : decode cX8_leastMinutes 61 = .ok (.goto (-42), 3) := by decide +kernel
theorem dX8_leastMinutes_40 : decode cX8_leastMinutes 40 = .ok (.aload_n 0, 1) := by decide +kernel
theorem dX8_leastMinutes_41 : decode cX8_leastMinutes 41 = .ok (.aload_n 1, 1) := by decide +kernel
theorem dX8_leastMinutes_42 : decode cX8_leastMinutes 42 = .ok (.iload_n 3, 1) := by decide +kernel
theorem kw_4_37 : Cond.methodLink RX8 77 yX8_noteFirstSteps ∈ gw := gw_t4 (List.mem_of_getElem? (i := 37) (by decide +kernel)) (by decide +kernel)
theorem kw_4_39 : Cond.instanceMethod yX8_noteFirstSteps ∈ gw := gw_t4 (List.mem_of_getElem? (i := 39) (by decide +kernel)) (by decide +kernel)
theorem ks_2_13 : Cond.selects RX8 yX8_noteFirstSteps yX8_noteFirstSteps ∈ gw := gw_s (y := yX8_noteFirstSteps) (n := 6) (List.mem_append_right _ (List.mem_append_left _ (List.mem_of_getElem? (i := 13) (by decide +kernel))))
theorem kw_4_40 : Cond.code yX8_noteFirstSteps cX8_noteFirstSteps 6 none ∈ gw := gw_t4 (List.mem_of_getElem? (i := 40) (by decide +kernel)) (by decide +kernel)
theorem gk_X8_77 : GoodIn gw (wsV RX8 77 RX8 yX8_noteFirstSteps (.code yX8_noteFirstSteps cX8_noteFirstSteps 6 none :: gw)) ∧ (yX8_noteFirstSteps.cls = RX8 ∧ yX8_noteFirstSteps.cls ≠ "java/lang/invoke/MethodHandle" ∧ yX8_noteFirstSteps.cls ≠ "java/lang/invoke/VarHandle" ∧ (parseMethodDescriptor yX8_noteFirstSteps.desc).map (fun d => d.parameters.length) = some 2) := ⟨gi_V kw_4_37 kw_4_39 ks_2_13 kw_1_10 kw_4_40, by decide +kernel⟩
theorem dX8_leastMinutes_43 : decode cX8_leastMinutes 43 = .ok (.invokevirtual 77, 3) := by decide +kernel
theorem dX8_leastMinutes_46 : decode cX8_leastMinutes 46 = .ok (.aload_n 0, 1) := by decide +kernel
theorem dX8_leastMinutes_47 : decode cX8_leastMinutes 47 = .ok (.aload_n 1, 1) := by decide +kernel
theorem dX8_leastMinutes_48 : decode cX8_leastMinutes 48 = .ok (.aload_n 1, 1) := by decide +kernel
theorem dX8_leastMinutes_49 : decode cX8_leastMinutes 49 = .ok (.iload_n 3, 1) := by decide +kernel
theorem kw_4_41 : Cond.methodLink RX8 80 yX8_menOf ∈ gw := gw_t4 (List.mem_of_getElem? (i := 41) (by decide +kernel)) (by decide +kernel)
theorem kw_4_42 : Cond.static yX8_menOf ∈ gw := gw_t4 (List.mem_of_getElem? (i := 42) (by decide +kernel)) (by decide +kernel)
theorem kw_4_43 : Cond.code yX8_menOf cX8_menOf 4 (some .int) ∈ gw := gw_t4 (List.mem_of_getElem? (i := 43) (by decide +kernel)) (by decide +kernel)
theorem gk_X8_80 : GoodIn gw (wsS RX8 80 yX8_menOf (.code yX8_menOf cX8_menOf 4 (some .int) :: gw)) ∧ (yX8_menOf.cls = RX8 ∧ yX8_menOf.cls ≠ "java/lang/invoke/MethodHandle" ∧ yX8_menOf.cls ≠ "java/lang/invoke/VarHandle" ∧ (parseMethodDescriptor yX8_menOf.desc).map (fun d => d.parameters.length) = some 2) := ⟨gi_S kw_4_41 kw_4_42 kw_1_10 kw_4_43, by decide +kernel⟩
theorem dX8_leastMinutes_50 : decode cX8_leastMinutes 50 = .ok (.invokestatic 80, 3) := by decide +kernel
theorem dX8_leastMinutes_53 : decode cX8_leastMinutes 53 = .ok (.iload_n 2, 1) := by decide +kernel
theorem kw_4_44 : Cond.methodLink RX8 84 yX8_minutesFor ∈ gw := gw_t4 (List.mem_of_getElem? (i := 44) (by decide +kernel)) (by decide +kernel)
theorem kw_4_46 : Cond.instanceMethod yX8_minutesFor ∈ gw := gw_t4 (List.mem_of_getElem? (i := 46) (by decide +kernel)) (by decide +kernel)
theorem ks_2_14 : Cond.selects RX8 yX8_minutesFor yX8_minutesFor ∈ gw := gw_s (y := yX8_minutesFor) (n := 6) (List.mem_append_right _ (List.mem_append_left _ (List.mem_of_getElem? (i := 14) (by decide +kernel))))
theorem kw_4_47 : Cond.code yX8_minutesFor cX8_minutesFor 5 (some .int) ∈ gw := gw_t4 (List.mem_of_getElem? (i := 47) (by decide +kernel)) (by decide +kernel)
theorem gk_X8_84 : GoodIn gw (wsV RX8 84 RX8 yX8_minutesFor (.code yX8_minutesFor cX8_minutesFor 5 (some .int) :: gw)) ∧ (yX8_minutesFor.cls = RX8 ∧ yX8_minutesFor.cls ≠ "java/lang/invoke/MethodHandle" ∧ yX8_minutesFor.cls ≠ "java/lang/invoke/VarHandle" ∧ (parseMethodDescriptor yX8_minutesFor.desc).map (fun d => d.parameters.length) = some 3) := ⟨gi_V kw_4_44 kw_4_46 ks_2_14 kw_1_10 kw_4_47, by decide +kernel⟩
theorem dX8_leastMinutes_54 : decode cX8_leastMinutes 54 = .ok (.invokevirtual 84, 3) := by decide +kernel
theorem dX8_leastMinutes_57 : decode cX8_leastMinutes 57 = .ok (.istore_n 2, 1) := by decide +kernel
theorem dX8_leastMinutes_0 : decode cX8_leastMinutes 0 = .ok (.aload_n 0, 1) := by decide +kernel
theorem dX8_leastMinutes_1 : decode cX8_leastMinutes 1 = .ok (.aload_n 1, 1) := by decide +kernel
theorem kw_4_2 : Cond.methodLink RX8 63 yX8_measure ∈ gw := gw_t4 (List.mem_of_getElem? (i := 2) (by decide +kernel)) (by decide +kernel)
theorem kw_4_4 : Cond.instanceMethod yX8_measure ∈ gw := gw_t4 (List.mem_of_getElem? (i := 4) (by decide +kernel)) (by decide +kernel)
theorem ks_2_6 : Cond.selects RX8 yX8_measure yX8_measure ∈ gw := gw_s (y := yX8_measure) (n := 6) (List.mem_append_right _ (List.mem_append_left _ (List.mem_of_getElem? (i := 6) (by decide +kernel))))
theorem kw_4_5 : Cond.code yX8_measure cX8_measure 5 none ∈ gw := gw_t4 (List.mem_of_getElem? (i := 5) (by decide +kernel)) (by decide +kernel)
theorem gk_X8_63 : GoodIn gw (wsV RX8 63 RX8 yX8_measure (.code yX8_measure cX8_measure 5 none :: gw)) ∧ (yX8_measure.cls = RX8 ∧ yX8_measure.cls ≠ "java/lang/invoke/MethodHandle" ∧ yX8_measure.cls ≠ "java/lang/invoke/VarHandle" ∧ (parseMethodDescriptor yX8_measure.desc).map (fun d => d.parameters.length) = some 1) := ⟨gi_V kw_4_2 kw_4_4 ks_2_6 kw_1_10 kw_4_5, by decide +kernel⟩
theorem dX8_leastMinutes_2 : decode cX8_leastMinutes 2 = .ok (.invokevirtual 63, 3) := by decide +kernel
theorem dX8_leastMinutes_5 : decode cX8_leastMinutes 5 = .ok (.aload_n 0, 1) := by decide +kernel
theorem dX8_leastMinutes_6 : decode cX8_leastMinutes 6 = .ok (.aload_n 1, 1) := by decide +kernel
theorem kw_4_29 : Cond.methodLink RX8 67 yX8_hasSomebodyStuck ∈ gw := gw_t4 (List.mem_of_getElem? (i := 29) (by decide +kernel)) (by decide +kernel)
theorem kw_4_31 : Cond.instanceMethod yX8_hasSomebodyStuck ∈ gw := gw_t4 (List.mem_of_getElem? (i := 31) (by decide +kernel)) (by decide +kernel)
theorem ks_2_11 : Cond.selects RX8 yX8_hasSomebodyStuck yX8_hasSomebodyStuck ∈ gw := gw_s (y := yX8_hasSomebodyStuck) (n := 6) (List.mem_append_right _ (List.mem_append_left _ (List.mem_of_getElem? (i := 11) (by decide +kernel))))
theorem kw_4_32 : Cond.code yX8_hasSomebodyStuck cX8_hasSomebodyStuck 3 (some .boolean) ∈ gw := gw_t4 (List.mem_of_getElem? (i := 32) (by decide +kernel)) (by decide +kernel)
theorem gk_X8_67 : GoodIn gw (wsV RX8 67 RX8 yX8_hasSomebodyStuck (.code yX8_hasSomebodyStuck cX8_hasSomebodyStuck 3 (some .boolean) :: gw)) ∧ (yX8_hasSomebodyStuck.cls = RX8 ∧ yX8_hasSomebodyStuck.cls ≠ "java/lang/invoke/MethodHandle" ∧ yX8_hasSomebodyStuck.cls ≠ "java/lang/invoke/VarHandle" ∧ (parseMethodDescriptor yX8_hasSomebodyStuck.desc).map (fun d => d.parameters.length) = some 1) := ⟨gi_V kw_4_29 kw_4_31 ks_2_11 kw_1_10 kw_4_32, by decide +kernel⟩
theorem dX8_leastMinutes_7 : decode cX8_leastMinutes 7 = .ok (.invokevirtual 67, 3) := by decide +kernel
theorem dX8_leastMinutes_10 : decode cX8_leastMinutes 10 = .ok (.ifCond .eq 5, 3) := by decide +kernel
theorem dX8_leastMinutes_15 : decode cX8_leastMinutes 15 = .ok (.iconst 0, 1) := by decide +kernel
theorem dX8_leastMinutes_16 : decode cX8_leastMinutes 16 = .ok (.istore_n 2, 1) := by decide +kernel
theorem dX8_leastMinutes_17 : decode cX8_leastMinutes 17 = .ok (.iconst 1, 1) := by decide +kernel
theorem dX8_leastMinutes_18 : decode cX8_leastMinutes 18 = .ok (.istore_n 3, 1) := by decide +kernel
theorem dX8_leastMinutes_64 : decode cX8_leastMinutes 64 = .ok (.iload_n 2, 1) := by decide +kernel
theorem dX8_leastMinutes_65 : decode cX8_leastMinutes 65 = .ok (.ireturn, 1) := by decide +kernel
theorem dX8_leastMinutes_13 : decode cX8_leastMinutes 13 = .ok (.iconst (-1), 1) := by decide +kernel
theorem dX8_leastMinutes_14 : decode cX8_leastMinutes 14 = .ok (.ireturn, 1) := by decide +kernel
theorem dX8_leastLateGroup_2 : decode cX8_leastLateGroup 2 = .ok (.iload_n 3, 1) := by decide +kernel
theorem dX8_leastLateGroup_3 : decode cX8_leastLateGroup 3 = .ok (.iconst 1, 1) := by decide +kernel
theorem dX8_leastLateGroup_4 : decode cX8_leastLateGroup 4 = .ok (.aload_n 1, 1) := by decide +kernel
theorem dX8_leastLateGroup_5 : decode cX8_leastLateGroup 5 = .ok (.getfield 71, 3) := by decide +kernel
theorem dX8_leastLateGroup_8 : decode cX8_leastLateGroup 8 = .ok (.ishl, 1) := by decide +kernel
theorem dX8_leastLateGroup_9 : decode cX8_leastLateGroup 9 = .ok (.if_icmp .ge 44, 3) := by decide +kernel
theorem dX8_leastLateGroup_12 : decode cX8_leastLateGroup 12 = .ok (.iload_n 3, 1) := by decide +kernel
theorem dX8_leastLateGroup_13 : decode cX8_leastLateGroup 13 = .ok (.aload_n 0, 1) := by decide +kernel
theorem dX8_leastLateGroup_14 : decode cX8_leastLateGroup 14 = .ok (.getfield 74, 3) := by decide +kernel
theorem dX8_leastLateGroup_17 : decode cX8_leastLateGroup 17 = .ok (.iconst (-1), 1) := by decide +kernel
theorem dX8_leastLateGroup_18 : decode cX8_leastLateGroup 18 = .ok (.ixor, 1) := by decide +kernel
theorem dX8_leastLateGroup_19 : decode cX8_leastLateGroup 19 = .ok (.iand, 1) := by decide +kernel
theorem dX8_leastLateGroup_20 : decode cX8_leastLateGroup 20 = .ok (.ifCond .ne 27, 3) := by decide +kernel
theorem dX8_leastLateGroup_47 : decode cX8_leastLateGroup 47 = .ok (.iinc 3 1, 3) := by decide +kernel
theorem dX8_leastLateGroup_50 : decode cX8_leastLateGroup 50 = .ok (.goto (-48), 3) := by decide +kernel
theorem dX8_leastLateGroup_23 : decode cX8_leastLateGroup 23 = .ok (.aload_n 0, 1) := by decide +kernel
theorem dX8_leastLateGroup_24 : decode cX8_leastLateGroup 24 = .ok (.aload_n 1, 1) := by decide +kernel
theorem dX8_leastLateGroup_25 : decode cX8_leastLateGroup 25 = .ok (.iload_n 3, 1) := by decide +kernel
theorem dX8_leastLateGroup_26 : decode cX8_leastLateGroup 26 = .ok (.invokevirtual 77, 3) := by decide +kernel
theorem dX8_leastLateGroup_29 : decode cX8_leastLateGroup 29 = .ok (.aload_n 1, 1) := by decide +kernel
theorem dX8_leastLateGroup_30 : decode cX8_leastLateGroup 30 = .ok (.iload_n 3, 1) := by decide +kernel
theorem dX8_leastLateGroup_31 : decode cX8_leastLateGroup 31 = .ok (.invokestatic 80, 3) := by decide +kernel
theorem dX8_leastLateGroup_34 : decode cX8_leastLateGroup 34 = .ok (.aload_n 0, 1) := by decide +kernel
theorem dX8_leastLateGroup_35 : decode cX8_leastLateGroup 35 = .ok (.aload_n 1, 1) := by decide +kernel
theorem dX8_leastLateGroup_36 : decode cX8_leastLateGroup 36 = .ok (.iload_n 2, 1) := by decide +kernel
theorem dX8_leastLateGroup_37 : decode cX8_leastLateGroup 37 = .ok (.iconst 1, 1) := by decide +kernel
theorem dX8_leastLateGroup_38 : decode cX8_leastLateGroup 38 = .ok (.isub, 1) := by decide +kernel
theorem dX8_leastLateGroup_39 : decode cX8_leastLateGroup 39 = .ok (.invokevirtual 88, 3) := by decide +kernel
theorem dX8_leastLateGroup_42 : decode cX8_leastLateGroup 42 = .ok (.if_icmp .le 5, 3) := by decide +kernel
theorem dX8_leastLateGroup_0 : decode cX8_leastLateGroup 0 = .ok (.iconst 1, 1) := by decide +kernel
theorem dX8_leastLateGroup_1 : decode cX8_leastLateGroup 1 = .ok (.istore_n 3, 1) := by decide +kernel
theorem dX8_leastLateGroup_45 : decode cX8_leastLateGroup 45 = .ok (.iload_n 3, 1) := by decide +kernel
theorem dX8_leastLateGroup_46 : decode cX8_leastLateGroup 46 = .ok (.ireturn, 1) := by decide +kernel
theorem dX8_leastLateGroup_53 : decode cX8_leastLateGroup 53 = .ok (.iconst (-1), 1) := by decide +kernel
theorem dX8_leastLateGroup_54 : decode cX8_leastLateGroup 54 = .ok (.ireturn, 1) := by decide +kernel
theorem dX8_stepsToNearest_15 : decode cX8_stepsToNearest 15 = .ok (.iload 4, 2) := by decide +kernel
theorem dX8_stepsToNearest_17 : decode cX8_stepsToNearest 17 = .ok (.aload_n 1, 1) := by decide +kernel
theorem dX8_stepsToNearest_18 : decode cX8_stepsToNearest 18 = .ok (.getfield 30, 3) := by decide +kernel
theorem dX8_stepsToNearest_21 : decode cX8_stepsToNearest 21 = .ok (.getfield 36, 3) := by decide +kernel
theorem dX8_stepsToNearest_24 : decode cX8_stepsToNearest 24 = .ok (.if_icmp .ge 43, 3) := by decide +kernel
theorem dX8_stepsToNearest_27 : decode cX8_stepsToNearest 27 = .ok (.iload 4, 2) := by decide +kernel
theorem dX8_stepsToNearest_29 : decode cX8_stepsToNearest 29 = .ok (.iconst 4, 1) := by decide +kernel
theorem dX8_stepsToNearest_30 : decode cX8_stepsToNearest 30 = .ok (.if_icmp .ge 37, 3) := by decide +kernel
theorem dX8_stepsToNearest_33 : decode cX8_stepsToNearest 33 = .ok (.aload_n 0, 1) := by decide +kernel
theorem dX8_stepsToNearest_34 : decode cX8_stepsToNearest 34 = .ok (.aload_n 1, 1) := by decide +kernel
theorem dX8_stepsToNearest_35 : decode cX8_stepsToNearest 35 = .ok (.iload 4, 2) := by decide +kernel
theorem dX8_stepsToNearest_37 : decode cX8_stepsToNearest 37 = .ok (.invokevirtual 41, 3) := by decide +kernel
theorem dX8_stepsToNearest_40 : decode cX8_stepsToNearest 40 = .ok (.iload_n 3, 1) := by decide +kernel
theorem dX8_stepsToNearest_41 : decode cX8_stepsToNearest 41 = .ok (.aload_n 0, 1) := by decide +kernel
theorem dX8_stepsToNearest_42 : decode cX8_stepsToNearest 42 = .ok (.aload_n 1, 1) := by decide +kernel
theorem dX8_stepsToNearest_43 : decode cX8_stepsToNearest 43 = .ok (.getfield 45, 3) := by decide +kernel
theorem dX8_stepsToNearest_46 : decode cX8_stepsToNearest 46 = .ok (.aload_n 2, 1) := by decide +kernel
theorem dX8_stepsToNearest_47 : decode cX8_stepsToNearest 47 = .ok (.getfield 49, 3) := by decide +kernel
theorem dX8_stepsToNearest_50 : decode cX8_stepsToNearest 50 = .ok (.aload_n 2, 1) := by decide +kernel
theorem dX8_stepsToNearest_51 : decode cX8_stepsToNearest 51 = .ok (.getfield 52, 3) := by decide +kernel
theorem dX8_stepsToNearest_54 : decode cX8_stepsToNearest 54 = .ok (.invokevirtual 55, 3) := by decide +kernel
theorem dX8_stepsToNearest_57 : decode cX8_stepsToNearest 57 = .ok (.invokestatic 59, 3) := by decide +kernel
theorem dX8_stepsToNearest_60 : decode cX8_stepsToNearest 60 = .ok (.istore_n 3, 1) := by decide +kernel
theorem dX8_stepsToNearest_61 : decode cX8_stepsToNearest 61 = .ok (.iinc 4 1, 3) := by decide +kernel
theorem dX8_stepsToNearest_64 : decode cX8_stepsToNearest 64 = .ok (.goto (-49), 3) := by decide +kernel
set_option maxHeartbeats 4000000 in
set_option maxRecDepth 100000 in
theorem lp_stepsNear {p : Program} {l : Launch} {e : Env} {s : State} {m : MethodId} {args : Array Value} {below : List Frame} {meth : Method} {c : Code} {Q : State → Prop} {A : Nat → Prop} {D : va_G} (F : mFix p s m args c cX8_stepsToNearest 5 RX8) (hA : ∀ q, s.heap.size ≤ q → A q) (bo : Nat → Nat) (B1 : Nat → Int32) (B2 : Nat → Int32) (B3 : Nat → Int32) (B4 : Nat → Int32) (B5 : Nat → Int32) (B6 : Nat → Int32) (B7 : Nat → Int32) (h0 : Nat) (fa : Nat) (cu : Nat) (rv : Nat) (bt : Nat) (wy1 : Nat) (wy2 : Nat) (wy3 : Nat) (wy4 : Nat) (wc1 : ClassId) (wc2 : ClassId) (cr : Int32) (bc : Nat) (ho : Int32) (fe : Int32) (cu1 : Nat) (cu2 : Nat) (cu3 : Nat) (cu4 : Nat) (cc2 : ClassId) (cc3 : ClassId) (cf2 : Nat → Int32) (cf3 : Nat → Int32) (sc : Int32) (to : Int32) (q1 : Nat) (q2 : Nat) (q3 : Nat) (q4 : Nat) (q5 : Nat) (q6 : Nat) (cy1 : ClassId) (cy5 : ClassId) (f1 : Nat → Int32) (f5 : Nat → Int32) (w : Nat) (h : Nat) (j : Nat) (hK : va_K D vwCl [(wc1, .int), (wc2, .int), (cc2, .int), (cc3, .int), (cy1, .int), (cy5, .boolean)] s)
    (kx_67 : ∀ (qd1 : Int32) (t1 : Nat → Int32) (t2 : Nat → Int32) (ne : Int32), ∀ (H : Heap) (locs : List Loc), va_P D vwCl (bL bo B1 B2 B3 B4 B5 B6 B7 ++ ([(h0, Sum.inr (7, [Value.ref wy1, Value.ref wy2, Value.int qd1, Value.ref wy3, Value.ref wy4, Value.int cr])), (wy1, Sum.inl (wc1, 100, Sum.inl t1)), (wy2, Sum.inl (wc2, 100, Sum.inl t2)), (fa, Sum.inr (3, [Value.ref cu, Value.ref rv, Value.ref bt, Value.int (nI bc), Value.int ho, Value.int fe])), (cu, Sum.inr (1, [Value.ref cu1, Value.ref cu2, Value.ref cu3, Value.ref cu4, Value.int sc, Value.int to])), (cu2, Sum.inl (cc2, 4, Sum.inl cf2)), (cu3, Sum.inl (cc3, 4, Sum.inl cf3)), (rv, Sum.inr (5, [Value.int (nI w), Value.int (nI h), Value.ref q1, Value.ref q2, Value.ref q3, Value.ref q4, Value.ref q5, Value.ref q6])), (q1, Sum.inl (cy1, 100, Sum.inl f1)), (q5, Sum.inl (cy5, 100, Sum.inl f5))] : va_W)) H → va_D A (bL bo B1 B2 B3 B4 B5 B6 B7 ++ ([(h0, Sum.inr (7, [Value.ref wy1, Value.ref wy2, Value.int qd1, Value.ref wy3, Value.ref wy4, Value.int cr])), (wy1, Sum.inl (wc1, 100, Sum.inl t1)), (wy2, Sum.inl (wc2, 100, Sum.inl t2)), (fa, Sum.inr (3, [Value.ref cu, Value.ref rv, Value.ref bt, Value.int (nI bc), Value.int ho, Value.int fe])), (cu, Sum.inr (1, [Value.ref cu1, Value.ref cu2, Value.ref cu3, Value.ref cu4, Value.int sc, Value.int to])), (cu2, Sum.inl (cc2, 4, Sum.inl cf2)), (cu3, Sum.inl (cc3, 4, Sum.inl cf3)), (rv, Sum.inr (5, [Value.int (nI w), Value.int (nI h), Value.ref q1, Value.ref q2, Value.ref q3, Value.ref q4, Value.ref q5, Value.ref q6])), (q1, Sum.inl (cy1, 100, Sum.inl f1)), (q5, Sum.inl (cy5, 100, Sum.inl f5))] : va_W)) → va_S A s.heap H locs → ∀ ls : Array Slot, lv_has ls 5 [(3, Value.int ne)] → W p l e ({ frames := 4, cells := 0, slots := 0, locals := 105 }) s m args below meth c H locs 0 0 Q (F0 m 67 ls [])) :
    ∀ n : Nat, ∀ (qd1 : Int32) (t1 : Nat → Int32) (t2 : Nat → Int32) (ne : Int32) (t : Nat), (t ≤ 4) → (j < 10) → (w ≤ 10) → (h ≤ 10) → (4 - t) < n → ∀ (H : Heap) (locs : List Loc), va_P D vwCl (bL bo B1 B2 B3 B4 B5 B6 B7 ++ ([(h0, Sum.inr (7, [Value.ref wy1, Value.ref wy2, Value.int qd1, Value.ref wy3, Value.ref wy4, Value.int cr])), (wy1, Sum.inl (wc1, 100, Sum.inl t1)), (wy2, Sum.inl (wc2, 100, Sum.inl t2)), (fa, Sum.inr (3, [Value.ref cu, Value.ref rv, Value.ref bt, Value.int (nI bc), Value.int ho, Value.int fe])), (cu, Sum.inr (1, [Value.ref cu1, Value.ref cu2, Value.ref cu3, Value.ref cu4, Value.int sc, Value.int to])), (cu2, Sum.inl (cc2, 4, Sum.inl cf2)), (cu3, Sum.inl (cc3, 4, Sum.inl cf3)), (rv, Sum.inr (5, [Value.int (nI w), Value.int (nI h), Value.ref q1, Value.ref q2, Value.ref q3, Value.ref q4, Value.ref q5, Value.ref q6])), (q1, Sum.inl (cy1, 100, Sum.inl f1)), (q5, Sum.inl (cy5, 100, Sum.inl f5))] : va_W)) H → va_D A (bL bo B1 B2 B3 B4 B5 B6 B7 ++ ([(h0, Sum.inr (7, [Value.ref wy1, Value.ref wy2, Value.int qd1, Value.ref wy3, Value.ref wy4, Value.int cr])), (wy1, Sum.inl (wc1, 100, Sum.inl t1)), (wy2, Sum.inl (wc2, 100, Sum.inl t2)), (fa, Sum.inr (3, [Value.ref cu, Value.ref rv, Value.ref bt, Value.int (nI bc), Value.int ho, Value.int fe])), (cu, Sum.inr (1, [Value.ref cu1, Value.ref cu2, Value.ref cu3, Value.ref cu4, Value.int sc, Value.int to])), (cu2, Sum.inl (cc2, 4, Sum.inl cf2)), (cu3, Sum.inl (cc3, 4, Sum.inl cf3)), (rv, Sum.inr (5, [Value.int (nI w), Value.int (nI h), Value.ref q1, Value.ref q2, Value.ref q3, Value.ref q4, Value.ref q5, Value.ref q6])), (q1, Sum.inl (cy1, 100, Sum.inl f1)), (q5, Sum.inl (cy5, 100, Sum.inl f5))] : va_W)) → va_S A s.heap H locs → ∀ ls : Array Slot, lv_has ls 5 [(0, Value.ref h0), (1, Value.ref fa), (2, Value.ref (bo j)), (3, Value.int ne), (4, Value.int (nI t))] → W p l e ({ frames := 4, cells := 0, slots := 0, locals := 105 }) s m args below meth c H locs 0 0 Q (F0 m 15 ls []) := by
  intro n
  induction n with
  | zero => intro qd1 t1 t2 ne t ht hj h3 h4 hn; exact absurd hn (Nat.not_lt_zero _)
  | succ n ih =>
    intro qd1 t1 t2 ne t ht hj h3 h4 hn H locs hP hD hS ls hl
    obtain ⟨hx, hb, hml, hown, hts⟩ := id F
    refine lv_iload hx hb dX8_stepsToNearest_15 (lv_at hl 4 rfl) ?_
    refine lv_aload_n hx hb dX8_stepsToNearest_17 rfl (lv_at hl 1 rfl) ?_
    refine va_get (D := D) (ci := 3) (v := Value.ref cu) (C := RX3) (T := TX3) (N := 6) hx hb hts inG_X3 hown hK hP 13 rfl rfl 0 (by decide) (hts _ kw_1_216) (fun _ h9 => h9) rfl dX8_stepsToNearest_18 ?_
    refine va_get (D := D) (ci := 1) (v := Value.int sc) (C := RX1) (T := TX1) (N := 6) hx hb hts inG_X1 hown hK hP 14 rfl rfl 4 (by decide) (hts _ kw_1_107) (fun _ h9 => h9) rfl dX8_stepsToNearest_21 ?_
    refine lv_icmp_ge (tgt := 67) hx hb dX8_stepsToNearest_24 (by decide) (fun c_1 => ?_) (fun c_1 => ?_)
    · skip
      have c_1 := Int32.not_lt.mpr c_1
      exact kx_67 qd1 t1 t2 ne  H locs (hP.sub [0, 1, 2, 3, 4, 5, 6, 7, 8, 9, 10, 11, 12, 13, 14, 15, 16, 17, 18, 19] rfl) (hD.sub [0, 1, 2, 3, 4, 5, 6, 7, 8, 9, 10, 11, 12, 13, 14, 15, 16, 17, 18, 19] (by decide) rfl) hS ls (lv_sub hl [3] rfl)
    · skip
      have c_1 := Int32.not_le.mp c_1
      refine lv_iload hx hb dX8_stepsToNearest_27 (lv_at hl 4 rfl) ?_
      refine lv_iconst (v := 4) hx hb dX8_stepsToNearest_29 (by decide) ?_
      refine lv_icmp_ge (tgt := 67) hx hb dX8_stepsToNearest_30 (by decide) (fun c_2 => ?_) (fun c_2 => ?_)
      · skip
        have c_2n : 4 ≤ t := (nI_leI (by omega) (by omega)).mp c_2
        have c_2 := Int32.not_lt.mpr c_2
        exact kx_67 qd1 t1 t2 ne  H locs (hP.sub [0, 1, 2, 3, 4, 5, 6, 7, 8, 9, 10, 11, 12, 13, 14, 15, 16, 17, 18, 19] rfl) (hD.sub [0, 1, 2, 3, 4, 5, 6, 7, 8, 9, 10, 11, 12, 13, 14, 15, 16, 17, 18, 19] (by decide) rfl) hS ls (lv_sub hl [3] rfl)
      · skip
        have c_2n : t < 4 := nb_le (by omega) (by omega) c_2
        have c_2 := Int32.not_le.mp c_2
        refine lv_aload_n hx hb dX8_stepsToNearest_33 rfl (lv_at hl 0 rfl) ?_
        refine lv_aload_n hx hb dX8_stepsToNearest_34 rfl (lv_at hl 1 rfl) ?_
        refine lv_iload hx hb dX8_stepsToNearest_35 (lv_at hl 4 rfl) ?_
        refine mc_Vv (rest := []) (wr := (bL bo B1 B2 B3 B4 B5 B6 B7 ++ ([] : va_W))) F hK hP hD hS hA (c_spreadFrom l D h0 fa cu rv bt wy1 wy2 wy3 wy4 wc1 wc2 cr bc ho fe cu1 cu2 cu3 cu4 cc2 cc3 cf2 cf3 sc to q1 q2 q3 q4 q5 q6 cy1 cy5 f1 f5 w h t1 t2 qd1 t (by omega) (by omega) (by omega)) ⟨gk_X8_41.1, gk_X8_41.2, Nat.le_of_ble_eq_true rfl, Nat.le_of_ble_eq_true rfl⟩ [10, 11, 12, 13, 14, 15, 16, 17, 18, 19] [0, 1, 2, 3, 4, 5, 6, 7, 8, 9] [0, 1, 2, 3, 4, 5] ⟨rfl, rfl, rfl, rfl, by decide⟩ rfl xT_move (fun _ _ _ => trivial) 10 rfl rfl rfl hl.1 rfl (Nat.le_of_ble_eq_true rfl) dX8_stepsToNearest_37 ⟨Nat.le_of_ble_eq_true rfl, Nat.le_of_ble_eq_true rfl⟩ (fun u H locs hw hK1 hP hD hS => ?_)
        obtain ⟨q9_3, t1_4, t2_5⟩ := u
        have hP : va_P D vwCl (bL bo B1 B2 B3 B4 B5 B6 B7 ++ ([(h0, Sum.inr (7, [Value.ref wy1, Value.ref wy2, Value.int (nI q9_3), Value.ref wy3, Value.ref wy4, Value.int cr])), (wy1, Sum.inl (wc1, 100, Sum.inl t1_4)), (wy2, Sum.inl (wc2, 100, Sum.inl t2_5)), (fa, Sum.inr (3, [Value.ref cu, Value.ref rv, Value.ref bt, Value.int (nI bc), Value.int ho, Value.int fe])), (cu, Sum.inr (1, [Value.ref cu1, Value.ref cu2, Value.ref cu3, Value.ref cu4, Value.int sc, Value.int to])), (cu2, Sum.inl (cc2, 4, Sum.inl cf2)), (cu3, Sum.inl (cc3, 4, Sum.inl cf3)), (rv, Sum.inr (5, [Value.int (nI w), Value.int (nI h), Value.ref q1, Value.ref q2, Value.ref q3, Value.ref q4, Value.ref q5, Value.ref q6])), (q1, Sum.inl (cy1, 100, Sum.inl f1)), (q5, Sum.inl (cy5, 100, Sum.inl f5))] : va_W)) H := hP
        have hD : va_D A (bL bo B1 B2 B3 B4 B5 B6 B7 ++ ([(h0, Sum.inr (7, [Value.ref wy1, Value.ref wy2, Value.int (nI q9_3), Value.ref wy3, Value.ref wy4, Value.int cr])), (wy1, Sum.inl (wc1, 100, Sum.inl t1_4)), (wy2, Sum.inl (wc2, 100, Sum.inl t2_5)), (fa, Sum.inr (3, [Value.ref cu, Value.ref rv, Value.ref bt, Value.int (nI bc), Value.int ho, Value.int fe])), (cu, Sum.inr (1, [Value.ref cu1, Value.ref cu2, Value.ref cu3, Value.ref cu4, Value.int sc, Value.int to])), (cu2, Sum.inl (cc2, 4, Sum.inl cf2)), (cu3, Sum.inl (cc3, 4, Sum.inl cf3)), (rv, Sum.inr (5, [Value.int (nI w), Value.int (nI h), Value.ref q1, Value.ref q2, Value.ref q3, Value.ref q4, Value.ref q5, Value.ref q6])), (q1, Sum.inl (cy1, 100, Sum.inl f1)), (q5, Sum.inl (cy5, 100, Sum.inl f5))] : va_W)) := hD
        refine lv_iload_n hx hb dX8_stepsToNearest_40 rfl (lv_at hl 3 rfl) ?_
        refine lv_aload_n hx hb dX8_stepsToNearest_41 rfl (lv_at hl 0 rfl) ?_
        refine lv_aload_n hx hb dX8_stepsToNearest_42 rfl (lv_at hl 1 rfl) ?_
        refine va_get (D := D) (ci := 3) (v := Value.ref rv) (C := RX3) (T := TX3) (N := 6) hx hb hts inG_X3 hown hK hP 13 rfl rfl 1 (by decide) (hts _ kw_1_221) (fun _ h9 => h9) rfl dX8_stepsToNearest_43 ?_
        refine lv_aload_n hx hb dX8_stepsToNearest_46 rfl (lv_at hl 2 rfl) ?_
        refine va_get (D := D) (ci := 0) (v := .int (B6 j)) (C := RX0) (T := TX0) (N := 7) hx hb hts inG_X0 hown hK hP j (bL_get (by omega)) rfl 5 (by decide) (hts _ kw_1_194) (fun _ h9 => h9) rfl dX8_stepsToNearest_47 ?_
        refine lv_aload_n hx hb dX8_stepsToNearest_50 rfl (lv_at hl 2 rfl) ?_
        refine va_get (D := D) (ci := 0) (v := .int (B7 j)) (C := RX0) (T := TX0) (N := 7) hx hb hts inG_X0 hown hK hP j (bL_get (by omega)) rfl 6 (by decide) (hts _ kw_1_197) (fun _ h9 => h9) rfl dX8_stepsToNearest_51 ?_
        refine mc_Vi (rest := [Value.int ne]) (wr := (bL bo B1 B2 B3 B4 B5 B6 B7 ++ ([(wy2, Sum.inl (wc2, 100, Sum.inl t2_5)), (fa, Sum.inr (3, [Value.ref cu, Value.ref rv, Value.ref bt, Value.int (nI bc), Value.int ho, Value.int fe])), (cu, Sum.inr (1, [Value.ref cu1, Value.ref cu2, Value.ref cu3, Value.ref cu4, Value.int sc, Value.int to])), (cu2, Sum.inl (cc2, 4, Sum.inl cf2)), (cu3, Sum.inl (cc3, 4, Sum.inl cf3)), (q1, Sum.inl (cy1, 100, Sum.inl f1)), (q5, Sum.inl (cy5, 100, Sum.inl f5))] : va_W))) F hK hP hD hS hA (c_stepsFrom l D h0 rv wy1 wy2 wy3 wy4 wc1 t1_4 (nI q9_3) cr q1 q2 q3 q4 q5 q6 w h (B6 j) (B7 j) (by omega) (by omega)) ⟨gk_X8_55.1, gk_X8_55.2, Nat.le_of_ble_eq_true rfl, Nat.le_of_ble_eq_true rfl⟩ [10, 11, 17] [0, 1, 2, 3, 4, 5, 6, 7, 8, 9, 12, 13, 14, 15, 16, 18, 19] [0] ⟨rfl, rfl, rfl, rfl, by decide⟩ rfl xT_move (fun _ _ _ => trivial) 10 rfl rfl rfl hl.1 rfl (Nat.le_of_ble_eq_true rfl) dX8_stepsToNearest_54 ⟨Nat.le_of_ble_eq_true rfl, Nat.le_of_ble_eq_true rfl⟩ (fun r_8 _ H locs hw hK1 hP hD hS => ?_)
        have hP : va_P D vwCl (bL bo B1 B2 B3 B4 B5 B6 B7 ++ ([(wy2, Sum.inl (wc2, 100, Sum.inl t2_5)), (fa, Sum.inr (3, [Value.ref cu, Value.ref rv, Value.ref bt, Value.int (nI bc), Value.int ho, Value.int fe])), (cu, Sum.inr (1, [Value.ref cu1, Value.ref cu2, Value.ref cu3, Value.ref cu4, Value.int sc, Value.int to])), (cu2, Sum.inl (cc2, 4, Sum.inl cf2)), (cu3, Sum.inl (cc3, 4, Sum.inl cf3)), (q1, Sum.inl (cy1, 100, Sum.inl f1)), (q5, Sum.inl (cy5, 100, Sum.inl f5)), (h0, Sum.inr (7, [Value.ref wy1, Value.ref wy2, Value.int (nI q9_3), Value.ref wy3, Value.ref wy4, Value.int cr])), (wy1, Sum.inl (wc1, 100, Sum.inl t1_4)), (rv, Sum.inr (5, [Value.int (nI w), Value.int (nI h), Value.ref q1, Value.ref q2, Value.ref q3, Value.ref q4, Value.ref q5, Value.ref q6]))] : va_W)) H := hP
        have hD : va_D A (bL bo B1 B2 B3 B4 B5 B6 B7 ++ ([(wy2, Sum.inl (wc2, 100, Sum.inl t2_5)), (fa, Sum.inr (3, [Value.ref cu, Value.ref rv, Value.ref bt, Value.int (nI bc), Value.int ho, Value.int fe])), (cu, Sum.inr (1, [Value.ref cu1, Value.ref cu2, Value.ref cu3, Value.ref cu4, Value.int sc, Value.int to])), (cu2, Sum.inl (cc2, 4, Sum.inl cf2)), (cu3, Sum.inl (cc3, 4, Sum.inl cf3)), (q1, Sum.inl (cy1, 100, Sum.inl f1)), (q5, Sum.inl (cy5, 100, Sum.inl f5)), (h0, Sum.inr (7, [Value.ref wy1, Value.ref wy2, Value.int (nI q9_3), Value.ref wy3, Value.ref wy4, Value.int cr])), (wy1, Sum.inl (wc1, 100, Sum.inl t1_4)), (rv, Sum.inr (5, [Value.int (nI w), Value.int (nI h), Value.ref q1, Value.ref q2, Value.ref q3, Value.ref q4, Value.ref q5, Value.ref q6]))] : va_W)) := hD
        have hw_9 : r_8 = r_8 := hw
        refine mc_Si (rest := []) (wr := (bL bo B1 B2 B3 B4 B5 B6 B7 ++ ([(wy2, Sum.inl (wc2, 100, Sum.inl t2_5)), (fa, Sum.inr (3, [Value.ref cu, Value.ref rv, Value.ref bt, Value.int (nI bc), Value.int ho, Value.int fe])), (cu, Sum.inr (1, [Value.ref cu1, Value.ref cu2, Value.ref cu3, Value.ref cu4, Value.int sc, Value.int to])), (cu2, Sum.inl (cc2, 4, Sum.inl cf2)), (cu3, Sum.inl (cc3, 4, Sum.inl cf3)), (q1, Sum.inl (cy1, 100, Sum.inl f1)), (q5, Sum.inl (cy5, 100, Sum.inl f5)), (h0, Sum.inr (7, [Value.ref wy1, Value.ref wy2, Value.int (nI q9_3), Value.ref wy3, Value.ref wy4, Value.int cr])), (wy1, Sum.inl (wc1, 100, Sum.inl t1_4)), (rv, Sum.inr (5, [Value.int (nI w), Value.int (nI h), Value.ref q1, Value.ref q2, Value.ref q3, Value.ref q4, Value.ref q5, Value.ref q6]))] : va_W))) F hK hP hD hS hA (c_nearer l D ne r_8 ) ⟨gk_X8_59.1, gk_X8_59.2, Nat.le_of_ble_eq_true rfl, Nat.le_of_ble_eq_true rfl⟩ [] [0, 1, 2, 3, 4, 5, 6, 7, 8, 9, 10, 11, 12, 13, 14, 15, 16, 17, 18, 19] [] ⟨rfl, rfl, rfl, rfl, by decide⟩ rfl xT_move (fun _ _ _ => trivial) rfl hl.1 rfl (Nat.le_of_ble_eq_true rfl) dX8_stepsToNearest_57 ⟨Nat.le_of_ble_eq_true rfl, Nat.le_of_ble_eq_true rfl⟩ (fun r_10 _ H locs hw hK1 hP hD hS => ?_)
        have hP : va_P D vwCl (bL bo B1 B2 B3 B4 B5 B6 B7 ++ ([(wy2, Sum.inl (wc2, 100, Sum.inl t2_5)), (fa, Sum.inr (3, [Value.ref cu, Value.ref rv, Value.ref bt, Value.int (nI bc), Value.int ho, Value.int fe])), (cu, Sum.inr (1, [Value.ref cu1, Value.ref cu2, Value.ref cu3, Value.ref cu4, Value.int sc, Value.int to])), (cu2, Sum.inl (cc2, 4, Sum.inl cf2)), (cu3, Sum.inl (cc3, 4, Sum.inl cf3)), (q1, Sum.inl (cy1, 100, Sum.inl f1)), (q5, Sum.inl (cy5, 100, Sum.inl f5)), (h0, Sum.inr (7, [Value.ref wy1, Value.ref wy2, Value.int (nI q9_3), Value.ref wy3, Value.ref wy4, Value.int cr])), (wy1, Sum.inl (wc1, 100, Sum.inl t1_4)), (rv, Sum.inr (5, [Value.int (nI w), Value.int (nI h), Value.ref q1, Value.ref q2, Value.ref q3, Value.ref q4, Value.ref q5, Value.ref q6]))] : va_W)) H := hP
        have hD : va_D A (bL bo B1 B2 B3 B4 B5 B6 B7 ++ ([(wy2, Sum.inl (wc2, 100, Sum.inl t2_5)), (fa, Sum.inr (3, [Value.ref cu, Value.ref rv, Value.ref bt, Value.int (nI bc), Value.int ho, Value.int fe])), (cu, Sum.inr (1, [Value.ref cu1, Value.ref cu2, Value.ref cu3, Value.ref cu4, Value.int sc, Value.int to])), (cu2, Sum.inl (cc2, 4, Sum.inl cf2)), (cu3, Sum.inl (cc3, 4, Sum.inl cf3)), (q1, Sum.inl (cy1, 100, Sum.inl f1)), (q5, Sum.inl (cy5, 100, Sum.inl f5)), (h0, Sum.inr (7, [Value.ref wy1, Value.ref wy2, Value.int (nI q9_3), Value.ref wy3, Value.ref wy4, Value.int cr])), (wy1, Sum.inl (wc1, 100, Sum.inl t1_4)), (rv, Sum.inr (5, [Value.int (nI w), Value.int (nI h), Value.ref q1, Value.ref q2, Value.ref q3, Value.ref q4, Value.ref q5, Value.ref q6]))] : va_W)) := hD
        have hw_11 : r_10 = r_10 := hw
        refine lv_istore_n (lv' := [(3, Value.int r_10), (0, Value.ref h0), (1, Value.ref fa), (2, Value.ref (bo j)), (4, Value.int (nI t))]) hx hb dX8_stepsToNearest_60 rfl hl (by decide) rfl (fun ls hl => ?_)
        refine lv_iinc (v := nI (t + 1)) (lv' := [(4, Value.int (nI (t + 1))), (3, Value.int r_10), (0, Value.ref h0), (1, Value.ref fa), (2, Value.ref (bo j))]) hx hb dX8_stepsToNearest_61 hl (k := 4) rfl (nI_add t 1) (by decide) rfl (fun ls hl => ?_)
        refine lv_goto (tgt := 15) hx hb dX8_stepsToNearest_64 (by decide) ?_
        exact ih (nI q9_3) t1_4 t2_5 r_10 (t + 1) (by omega) (by omega) (by omega) (by omega) (by omega) H locs (hP.sub [0, 1, 2, 3, 4, 5, 6, 7, 8, 9, 17, 18, 10, 11, 12, 13, 14, 19, 15, 16] rfl) (hD.sub [0, 1, 2, 3, 4, 5, 6, 7, 8, 9, 17, 18, 10, 11, 12, 13, 14, 19, 15, 16] (by decide) rfl) hS ls (lv_sub hl [2, 3, 4, 1, 0] rfl)
theorem dX8_stepsToNearest_0 : decode cX8_stepsToNearest 0 = .ok (.iconst (-1), 1) := by decide +kernel
theorem dX8_stepsToNearest_1 : decode cX8_stepsToNearest 1 = .ok (.istore_n 3, 1) := by decide +kernel
theorem dX8_stepsToNearest_2 : decode cX8_stepsToNearest 2 = .ok (.aload_n 2, 1) := by decide +kernel
theorem dX8_stepsToNearest_3 : decode cX8_stepsToNearest 3 = .ok (.getfield 24, 3) := by decide +kernel
theorem dX8_stepsToNearest_6 : decode cX8_stepsToNearest 6 = .ok (.iconst 1, 1) := by decide +kernel
theorem dX8_stepsToNearest_7 : decode cX8_stepsToNearest 7 = .ok (.if_icmp .eq 5, 3) := by decide +kernel
theorem dX8_stepsToNearest_12 : decode cX8_stepsToNearest 12 = .ok (.iconst 0, 1) := by decide +kernel
theorem dX8_stepsToNearest_13 : decode cX8_stepsToNearest 13 = .ok (.istore 4, 2) := by decide +kernel
theorem dX8_stepsToNearest_67 : decode cX8_stepsToNearest 67 = .ok (.iload_n 3, 1) := by decide +kernel
theorem dX8_stepsToNearest_68 : decode cX8_stepsToNearest 68 = .ok (.ireturn, 1) := by decide +kernel
theorem dX8_stepsToNearest_10 : decode cX8_stepsToNearest 10 = .ok (.iconst (-1), 1) := by decide +kernel
theorem dX8_stepsToNearest_11 : decode cX8_stepsToNearest 11 = .ok (.ireturn, 1) := by decide +kernel
set_option maxHeartbeats 4000000 in
set_option maxRecDepth 100000 in
theorem c_stepsNear (l : Launch) (D : va_G) (bo : Nat → Nat) (B1 : Nat → Int32) (B2 : Nat → Int32) (B3 : Nat → Int32) (B4 : Nat → Int32) (B5 : Nat → Int32) (B6 : Nat → Int32) (B7 : Nat → Int32) (h0 : Nat) (fa : Nat) (cu : Nat) (rv : Nat) (bt : Nat) (wy1 : Nat) (wy2 : Nat) (wy3 : Nat) (wy4 : Nat) (wc1 : ClassId) (wc2 : ClassId) (cr : Int32) (bc : Nat) (ho : Int32) (fe : Int32) (cu1 : Nat) (cu2 : Nat) (cu3 : Nat) (cu4 : Nat) (cc2 : ClassId) (cc3 : ClassId) (cf2 : Nat → Int32) (cf3 : Nat → Int32) (sc : Int32) (to : Int32) (q1 : Nat) (q2 : Nat) (q3 : Nat) (q4 : Nat) (q5 : Nat) (q6 : Nat) (cy1 : ClassId) (cy5 : ClassId) (f1 : Nat → Int32) (f5 : Nat → Int32) (w : Nat) (h : Nat) (s1 : Nat → Int32) (s2 : Nat → Int32) (qd : Int32) (j : Nat) (h3 : w ≤ 10) (h4 : h ≤ 10) (hj : j < 10) : cI l yX8_stepsToNearest (.code yX8_stepsToNearest cX8_stepsToNearest 5 (some .int)) ({ frames := 4, cells := 0, slots := 0, locals := 105 }) D [(wc1, .int), (wc2, .int), (cc2, .int), (cc3, .int), (cy1, .int), (cy5, .boolean)] (bL bo B1 B2 B3 B4 B5 B6 B7 ++ ([(h0, Sum.inr (7, [Value.ref wy1, Value.ref wy2, Value.int qd, Value.ref wy3, Value.ref wy4, Value.int cr])), (wy1, Sum.inl (wc1, 100, Sum.inl s1)), (wy2, Sum.inl (wc2, 100, Sum.inl s2)), (fa, Sum.inr (3, [Value.ref cu, Value.ref rv, Value.ref bt, Value.int (nI bc), Value.int ho, Value.int fe])), (cu, Sum.inr (1, [Value.ref cu1, Value.ref cu2, Value.ref cu3, Value.ref cu4, Value.int sc, Value.int to])), (cu2, Sum.inl (cc2, 4, Sum.inl cf2)), (cu3, Sum.inl (cc3, 4, Sum.inl cf3)), (rv, Sum.inr (5, [Value.int (nI w), Value.int (nI h), Value.ref q1, Value.ref q2, Value.ref q3, Value.ref q4, Value.ref q5, Value.ref q6])), (q1, Sum.inl (cy1, 100, Sum.inl f1)), (q5, Sum.inl (cy5, 100, Sum.inl f5))] : va_W)) xT [Value.ref h0, Value.ref fa, Value.ref (bo j)] (S := Int32 × (Nat → Int32) × (Nat → Int32)) (fun r u => match u with | (qd1, t1, t2) => r = r) (fun u => match u with | (qd1, t1, t2) => []) (fun u => match u with | (qd1, t1, t2) => (bL bo B1 B2 B3 B4 B5 B6 B7 ++ ([(h0, Sum.inr (7, [Value.ref wy1, Value.ref wy2, Value.int qd1, Value.ref wy3, Value.ref wy4, Value.int cr])), (wy1, Sum.inl (wc1, 100, Sum.inl t1)), (wy2, Sum.inl (wc2, 100, Sum.inl t2)), (fa, Sum.inr (3, [Value.ref cu, Value.ref rv, Value.ref bt, Value.int (nI bc), Value.int ho, Value.int fe])), (cu, Sum.inr (1, [Value.ref cu1, Value.ref cu2, Value.ref cu3, Value.ref cu4, Value.int sc, Value.int to])), (cu2, Sum.inl (cc2, 4, Sum.inl cf2)), (cu3, Sum.inl (cc3, 4, Sum.inl cf3)), (rv, Sum.inr (5, [Value.int (nI w), Value.int (nI h), Value.ref q1, Value.ref q2, Value.ref q3, Value.ref q4, Value.ref q5, Value.ref q6])), (q1, Sum.inl (cy1, 100, Sum.inl f1)), (q5, Sum.inl (cy5, 100, Sum.inl f5))] : va_W))) := by
  intro sz
  refine Met.ofW (cc := cX8_stepsToNearest) (maxL := 5) (ret := (some .int)) (by decide) rfl ?_
  intro p e s m args below meth c s₁ B hml hv
  obtain ⟨rfl, hsz, hP, hK, hD0, hX⟩ := hv
  have hx := B.exec
  have hb := B.bytes
  have hr := B.returns
  have hts0 := atoms_spec (ws := .code yX8_stepsToNearest cX8_stepsToNearest 5 (some .int) :: gw) B.pre
  have hts := fun (w : Cond) (h : w ∈ gw) => hts0 w (List.mem_cons_of_mem _ h)
  have hown : s.vm.findClass RX8 = some m.cls := findClass_of_methodNamed B.named
  have hlocks := B.notSynchronized
  have F : mFix p s m _ c cX8_stepsToNearest 5 RX8 := ⟨hx, hb, hml, hown, hts⟩
  subst hsz
  have hD := hD0.self (sz := s.heap.size)
  generalize hAe : va_A (bL bo B1 B2 B3 B4 B5 B6 B7 ++ ([(h0, Sum.inr (7, [Value.ref wy1, Value.ref wy2, Value.int qd, Value.ref wy3, Value.ref wy4, Value.int cr])), (wy1, Sum.inl (wc1, 100, Sum.inl s1)), (wy2, Sum.inl (wc2, 100, Sum.inl s2)), (fa, Sum.inr (3, [Value.ref cu, Value.ref rv, Value.ref bt, Value.int (nI bc), Value.int ho, Value.int fe])), (cu, Sum.inr (1, [Value.ref cu1, Value.ref cu2, Value.ref cu3, Value.ref cu4, Value.int sc, Value.int to])), (cu2, Sum.inl (cc2, 4, Sum.inl cf2)), (cu3, Sum.inl (cc3, 4, Sum.inl cf3)), (rv, Sum.inr (5, [Value.int (nI w), Value.int (nI h), Value.ref q1, Value.ref q2, Value.ref q3, Value.ref q4, Value.ref q5, Value.ref q6])), (q1, Sum.inl (cy1, 100, Sum.inl f1)), (q5, Sum.inl (cy5, 100, Sum.inl f5))] : va_W)) s.heap.size = A at hD hX ⊢
  have hA : ∀ q : Nat, s.heap.size ≤ q → A q := fun q h => by rw [← hAe]; exact Or.inr h
  have hS : va_S A s.heap s.heap [] := va_S.rf
  have hl := lv_entry ([Value.ref h0, Value.ref fa, Value.ref (bo j)]) (n := 5) (Nat.le_of_ble_eq_true rfl)
  rw [lg_entry_eq]
  generalize (lg_sl ([Value.ref h0, Value.ref fa, Value.ref (bo j)]) ++ List.replicate (5 - (lg_sl ([Value.ref h0, Value.ref fa, Value.ref (bo j)])).length) Slot.unset).toArray = ls at hl ⊢
  have hl : lv_has ls 5 [(0, Value.ref h0), (1, Value.ref fa), (2, Value.ref (bo j))] := hl
  have hP : va_P D vwCl (bL bo B1 B2 B3 B4 B5 B6 B7 ++ ([(h0, Sum.inr (7, [Value.ref wy1, Value.ref wy2, Value.int qd, Value.ref wy3, Value.ref wy4, Value.int cr])), (wy1, Sum.inl (wc1, 100, Sum.inl s1)), (wy2, Sum.inl (wc2, 100, Sum.inl s2)), (fa, Sum.inr (3, [Value.ref cu, Value.ref rv, Value.ref bt, Value.int (nI bc), Value.int ho, Value.int fe])), (cu, Sum.inr (1, [Value.ref cu1, Value.ref cu2, Value.ref cu3, Value.ref cu4, Value.int sc, Value.int to])), (cu2, Sum.inl (cc2, 4, Sum.inl cf2)), (cu3, Sum.inl (cc3, 4, Sum.inl cf3)), (rv, Sum.inr (5, [Value.int (nI w), Value.int (nI h), Value.ref q1, Value.ref q2, Value.ref q3, Value.ref q4, Value.ref q5, Value.ref q6])), (q1, Sum.inl (cy1, 100, Sum.inl f1)), (q5, Sum.inl (cy5, 100, Sum.inl f5))] : va_W)) s.heap := hP
  refine lv_iconst (v := -1) hx hb dX8_stepsToNearest_0 (by decide) ?_
  refine lv_istore_n (lv' := [(3, Value.int ((-1))), (0, Value.ref h0), (1, Value.ref fa), (2, Value.ref (bo j))]) hx hb dX8_stepsToNearest_1 rfl hl (by decide) rfl (fun ls hl => ?_)
  refine lv_aload_n hx hb dX8_stepsToNearest_2 rfl (lv_at hl 3 rfl) ?_
  refine va_get (D := D) (ci := 0) (v := .int (B5 j)) (C := RX0) (T := TX0) (N := 7) hx hb hts inG_X0 hown hK hP j (bL_get (by omega)) rfl 4 (by decide) (hts _ kw_1_190) (fun _ h9 => h9) rfl dX8_stepsToNearest_3 ?_
  refine lv_iconst (v := 1) hx hb dX8_stepsToNearest_6 (by decide) ?_
  refine lv_icmp_eq (tgt := 12) hx hb dX8_stepsToNearest_7 (by decide) (fun c_1 => ?_) (fun c_1 => ?_)
  · skip
    refine lv_iconst (v := 0) hx hb dX8_stepsToNearest_12 (by decide) ?_
    refine lv_istore (lv' := [(4, Value.int 0), (3, Value.int ((-1))), (0, Value.ref h0), (1, Value.ref fa), (2, Value.ref (bo j))]) hx hb dX8_stepsToNearest_13 hl (by decide) rfl (fun ls hl => ?_)
    refine lp_stepsNear F hA bo B1 B2 B3 B4 B5 B6 B7 h0 fa cu rv bt wy1 wy2 wy3 wy4 wc1 wc2 cr bc ho fe cu1 cu2 cu3 cu4 cc2 cc3 cf2 cf3 sc to q1 q2 q3 q4 q5 q6 cy1 cy5 f1 f5 w h j (hK.sub [0, 1, 2, 3, 4, 5] rfl) (fun qd1_2 t1_3 t2_4 ne_5  H locs hP hD hS ls hl => ?_) _ qd s1 s2 ((-1)) 0 (by omega) (by omega) (by omega) (by omega) (Nat.lt_succ_self _) _ _ (hP.sub [0, 1, 2, 3, 4, 5, 6, 7, 8, 9, 10, 11, 12, 13, 14, 15, 16, 17, 18, 19] rfl) (hD.sub [0, 1, 2, 3, 4, 5, 6, 7, 8, 9, 10, 11, 12, 13, 14, 15, 16, 17, 18, 19] (by decide) rfl) hS ls (lv_sub hl [2, 3, 4, 1, 0] rfl)
    refine lv_iload_n hx hb dX8_stepsToNearest_67 rfl (lv_at hl 0 rfl) ?_
    have hP9 := hP.sub (ws' := (bL bo B1 B2 B3 B4 B5 B6 B7 ++ ([(h0, Sum.inr (7, [Value.ref wy1, Value.ref wy2, Value.int qd1_2, Value.ref wy3, Value.ref wy4, Value.int cr])), (wy1, Sum.inl (wc1, 100, Sum.inl t1_3)), (wy2, Sum.inl (wc2, 100, Sum.inl t2_4)), (fa, Sum.inr (3, [Value.ref cu, Value.ref rv, Value.ref bt, Value.int (nI bc), Value.int ho, Value.int fe])), (cu, Sum.inr (1, [Value.ref cu1, Value.ref cu2, Value.ref cu3, Value.ref cu4, Value.int sc, Value.int to])), (cu2, Sum.inl (cc2, 4, Sum.inl cf2)), (cu3, Sum.inl (cc3, 4, Sum.inl cf3)), (rv, Sum.inr (5, [Value.int (nI w), Value.int (nI h), Value.ref q1, Value.ref q2, Value.ref q3, Value.ref q4, Value.ref q5, Value.ref q6])), (q1, Sum.inl (cy1, 100, Sum.inl f1)), (q5, Sum.inl (cy5, 100, Sum.inl f5))] : va_W))) [0, 1, 2, 3, 4, 5, 6, 7, 8, 9, 10, 11, 12, 13, 14, 15, 16, 17, 18, 19] rfl
    have hD9 := hD.sub (ws' := (bL bo B1 B2 B3 B4 B5 B6 B7 ++ ([(h0, Sum.inr (7, [Value.ref wy1, Value.ref wy2, Value.int qd1_2, Value.ref wy3, Value.ref wy4, Value.int cr])), (wy1, Sum.inl (wc1, 100, Sum.inl t1_3)), (wy2, Sum.inl (wc2, 100, Sum.inl t2_4)), (fa, Sum.inr (3, [Value.ref cu, Value.ref rv, Value.ref bt, Value.int (nI bc), Value.int ho, Value.int fe])), (cu, Sum.inr (1, [Value.ref cu1, Value.ref cu2, Value.ref cu3, Value.ref cu4, Value.int sc, Value.int to])), (cu2, Sum.inl (cc2, 4, Sum.inl cf2)), (cu3, Sum.inl (cc3, 4, Sum.inl cf3)), (rv, Sum.inr (5, [Value.int (nI w), Value.int (nI h), Value.ref q1, Value.ref q2, Value.ref q3, Value.ref q4, Value.ref q5, Value.ref q6])), (q1, Sum.inl (cy1, 100, Sum.inl f1)), (q5, Sum.inl (cy5, 100, Sum.inl f5))] : va_W))) [0, 1, 2, 3, 4, 5, 6, 7, 8, 9, 10, 11, 12, 13, 14, 15, 16, 17, 18, 19] (by decide) rfl
    have hK9 := hK.sub (tys' := []) [] rfl
    refine W.widen (k := 0) (n := 0) (by decide) (by decide) ?_
    exact W.iret (v := ne_5) hx hb hr (fun t ht hW => ⟨⟨ne_5, (qd1_2, t1_3, t2_4), rfl, rfl, by rw [ht]; exact hP9, va_K.moved hW.alike hK9, hD9⟩, hS.F ht⟩) hS.2.2 dX8_stepsToNearest_68
  · skip
    refine lv_iconst (v := -1) hx hb dX8_stepsToNearest_10 (by decide) ?_
    have hP9 := hP.sub (ws' := (bL bo B1 B2 B3 B4 B5 B6 B7 ++ ([(h0, Sum.inr (7, [Value.ref wy1, Value.ref wy2, Value.int qd, Value.ref wy3, Value.ref wy4, Value.int cr])), (wy1, Sum.inl (wc1, 100, Sum.inl s1)), (wy2, Sum.inl (wc2, 100, Sum.inl s2)), (fa, Sum.inr (3, [Value.ref cu, Value.ref rv, Value.ref bt, Value.int (nI bc), Value.int ho, Value.int fe])), (cu, Sum.inr (1, [Value.ref cu1, Value.ref cu2, Value.ref cu3, Value.ref cu4, Value.int sc, Value.int to])), (cu2, Sum.inl (cc2, 4, Sum.inl cf2)), (cu3, Sum.inl (cc3, 4, Sum.inl cf3)), (rv, Sum.inr (5, [Value.int (nI w), Value.int (nI h), Value.ref q1, Value.ref q2, Value.ref q3, Value.ref q4, Value.ref q5, Value.ref q6])), (q1, Sum.inl (cy1, 100, Sum.inl f1)), (q5, Sum.inl (cy5, 100, Sum.inl f5))] : va_W))) [0, 1, 2, 3, 4, 5, 6, 7, 8, 9, 10, 11, 12, 13, 14, 15, 16, 17, 18, 19] rfl
    have hD9 := hD.sub (ws' := (bL bo B1 B2 B3 B4 B5 B6 B7 ++ ([(h0, Sum.inr (7, [Value.ref wy1, Value.ref wy2, Value.int qd, Value.ref wy3, Value.ref wy4, Value.int cr])), (wy1, Sum.inl (wc1, 100, Sum.inl s1)), (wy2, Sum.inl (wc2, 100, Sum.inl s2)), (fa, Sum.inr (3, [Value.ref cu, Value.ref rv, Value.ref bt, Value.int (nI bc), Value.int ho, Value.int fe])), (cu, Sum.inr (1, [Value.ref cu1, Value.ref cu2, Value.ref cu3, Value.ref cu4, Value.int sc, Value.int to])), (cu2, Sum.inl (cc2, 4, Sum.inl cf2)), (cu3, Sum.inl (cc3, 4, Sum.inl cf3)), (rv, Sum.inr (5, [Value.int (nI w), Value.int (nI h), Value.ref q1, Value.ref q2, Value.ref q3, Value.ref q4, Value.ref q5, Value.ref q6])), (q1, Sum.inl (cy1, 100, Sum.inl f1)), (q5, Sum.inl (cy5, 100, Sum.inl f5))] : va_W))) [0, 1, 2, 3, 4, 5, 6, 7, 8, 9, 10, 11, 12, 13, 14, 15, 16, 17, 18, 19] (by decide) rfl
    have hK9 := hK.sub (tys' := []) [] rfl
    refine W.widen (k := 0) (n := 0) (by decide) (by decide) ?_
    exact W.iret (v := (-1)) hx hb hr (fun t ht hW => ⟨⟨((-1)), (qd, s1, s2), rfl, rfl, by rw [ht]; exact hP9, va_K.moved hW.alike hK9, hD9⟩, hS.F ht⟩) hS.2.2 dX8_stepsToNearest_11
