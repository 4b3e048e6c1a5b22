theorem dX9_cell_0 : decode cX9_cell 0 = .ok (.aload_n 0, 1) := by decide +kernel
theorem dX9_cell_1 : decode cX9_cell 1 = .ok (.getfield 33, 3) := by decide +kernel
theorem dX9_cell_4 : decode cX9_cell 4 = .ok (.getfield 84, 3) := by decide +kernel
theorem dX9_cell_7 : decode cX9_cell 7 = .ok (.astore 4, 2) := by decide +kernel
theorem dX9_cell_9 : decode cX9_cell 9 = .ok (.aload 4, 2) := by decide +kernel
theorem dX9_cell_11 : decode cX9_cell 11 = .ok (.iload_n 1, 1) := by decide +kernel
theorem dX9_cell_12 : decode cX9_cell 12 = .ok (.iload_n 2, 1) := by decide +kernel
theorem dX9_cell_13 : decode cX9_cell 13 = .ok (.invokevirtual 88, 3) := by decide +kernel
theorem dX9_cell_16 : decode cX9_cell 16 = .ok (.ifCond .ne 13, 3) := by decide +kernel
theorem kw_4_89 : Cond.classLink RX9 142 nIO ∈ gw := gw_t4 (List.mem_of_getElem? (i := 89) (by decide +kernel)) (by decide +kernel)
theorem kw_1_22 : Cond.initialized nIO ∈ gw := gw_t1 (List.mem_of_getElem? (i := 22) (by decide +kernel)) (by decide +kernel)
theorem dX9_cell_19 : decode cX9_cell 19 = .ok (.new 142, 3) := by decide +kernel
theorem dX9_cell_22 : decode cX9_cell 22 = .ok (.dup, 1) := by decide +kernel
theorem dX9_cell_23 : decode cX9_cell 23 = .ok (.ldc 144, 2) := by decide +kernel
theorem dX9_cell_25 : decode cX9_cell 25 = .ok (.invokespecial 146, 3) := by decide +kernel
theorem dX9_cell_28 : decode cX9_cell 28 = .ok (.athrow, 1) := by decide +kernel
theorem dX9_cell_29 : decode cX9_cell 29 = .ok (.aload 4, 2) := by decide +kernel
theorem dX9_cell_31 : decode cX9_cell 31 = .ok (.iload_n 1, 1) := by decide +kernel
theorem dX9_cell_32 : decode cX9_cell 32 = .ok (.iload_n 2, 1) := by decide +kernel
theorem kw_4_156 : Cond.methodLink RX9 149 yX6_spotOf ∈ gw := gw_t4 (List.mem_of_getElem? (i := 156) (by decide +kernel)) (by decide +kernel)
theorem gk_X9_149 : GoodIn gw (wsV RX9 149 RX6 yX6_spotOf (.code yX6_spotOf cX6_spotOf 3 (some .int) :: gw)) ∧ (yX6_spotOf.cls = RX6 ∧ yX6_spotOf.cls ≠ "java/lang/invoke/MethodHandle" ∧ yX6_spotOf.cls ≠ "java/lang/invoke/VarHandle" ∧ (parseMethodDescriptor yX6_spotOf.desc).map (fun d => d.parameters.length) = some 2) := ⟨gi_V kw_4_156 kw_3_16 kw_3_17 kw_1_7 kw_3_18, by decide +kernel⟩
theorem dX9_cell_33 : decode cX9_cell 33 = .ok (.invokevirtual 149, 3) := by decide +kernel
theorem dX9_cell_36 : decode cX9_cell 36 = .ok (.istore 5, 2) := by decide +kernel
theorem dX9_cell_38 : decode cX9_cell 38 = .ok (.iload_n 3, 1) := by decide +kernel
theorem dX9_cell_39 : decode cX9_cell 39 = .ok (.tableswitch 108 0 5 #[37, 46, 55, 72, 81, 99], 37) := by decide +kernel
theorem dX9_cell_76 : decode cX9_cell 76 = .ok (.aload 4, 2) := by decide +kernel
theorem kw_1_149 : Cond.fieldLink RX9 153 "IceFair$River" "low" "[I" ∈ gw := gw_t1 (List.mem_of_getElem? (i := 149) (by decide +kernel)) (by decide +kernel)
theorem dX9_cell_78 : decode cX9_cell 78 = .ok (.getfield 153, 3) := by decide +kernel
theorem dX9_cell_81 : decode cX9_cell 81 = .ok (.iload 5, 2) := by decide +kernel
theorem dX9_cell_83 : decode cX9_cell 83 = .ok (.iaload, 1) := by decide +kernel
theorem dX9_cell_84 : decode cX9_cell 84 = .ok (.ireturn, 1) := by decide +kernel
theorem dX9_cell_85 : decode cX9_cell 85 = .ok (.aload 4, 2) := by decide +kernel
theorem kw_1_151 : Cond.fieldLink RX9 156 "IceFair$River" "high" "[I" ∈ gw := gw_t1 (List.mem_of_getElem? (i := 151) (by decide +kernel)) (by decide +kernel)
theorem dX9_cell_87 : decode cX9_cell 87 = .ok (.getfield 156, 3) := by decide +kernel
theorem dX9_cell_90 : decode cX9_cell 90 = .ok (.iload 5, 2) := by decide +kernel
theorem dX9_cell_92 : decode cX9_cell 92 = .ok (.iaload, 1) := by decide +kernel
theorem dX9_cell_93 : decode cX9_cell 93 = .ok (.ireturn, 1) := by decide +kernel
theorem dX9_cell_94 : decode cX9_cell 94 = .ok (.aload 4, 2) := by decide +kernel
theorem kw_1_158 : Cond.fieldLink RX9 159 "IceFair$River" "cracked" "[Z" ∈ gw := gw_t1 (List.mem_of_getElem? (i := 158) (by decide +kernel)) (by decide +kernel)
theorem dX9_cell_96 : decode cX9_cell 96 = .ok (.getfield 159, 3) := by decide +kernel
theorem dX9_cell_99 : decode cX9_cell 99 = .ok (.iload 5, 2) := by decide +kernel
theorem dX9_cell_101 : decode cX9_cell 101 = .ok (.baload, 1) := by decide +kernel
theorem dX9_cell_102 : decode cX9_cell 102 = .ok (.ifCond .eq 7, 3) := by decide +kernel
theorem dX9_cell_109 : decode cX9_cell 109 = .ok (.iconst 0, 1) := by decide +kernel
theorem dX9_cell_110 : decode cX9_cell 110 = .ok (.ireturn, 1) := by decide +kernel
theorem dX9_cell_111 : decode cX9_cell 111 = .ok (.aload 4, 2) := by decide +kernel
theorem kw_1_153 : Cond.fieldLink RX9 163 "IceFair$River" "strain" "[I" ∈ gw := gw_t1 (List.mem_of_getElem? (i := 153) (by decide +kernel)) (by decide +kernel)
theorem dX9_cell_113 : decode cX9_cell 113 = .ok (.getfield 163, 3) := by decide +kernel
theorem dX9_cell_116 : decode cX9_cell 116 = .ok (.iload 5, 2) := by decide +kernel
theorem dX9_cell_118 : decode cX9_cell 118 = .ok (.iaload, 1) := by decide +kernel
theorem dX9_cell_119 : decode cX9_cell 119 = .ok (.ireturn, 1) := by decide +kernel
theorem dX9_cell_120 : decode cX9_cell 120 = .ok (.aload 4, 2) := by decide +kernel
theorem dX9_cell_122 : decode cX9_cell 122 = .ok (.iload 5, 2) := by decide +kernel
theorem dX9_cell_124 : decode cX9_cell 124 = .ok (.aload_n 0, 1) := by decide +kernel
theorem dX9_cell_125 : decode cX9_cell 125 = .ok (.getfield 33, 3) := by decide +kernel
theorem dX9_cell_128 : decode cX9_cell 128 = .ok (.getfield 67, 3) := by decide +kernel
theorem kw_4_157 : Cond.methodLink RX9 166 yX1_bear ∈ gw := gw_t4 (List.mem_of_getElem? (i := 157) (by decide +kernel)) (by decide +kernel)
theorem gk_X9_166 : GoodIn gw (wsV RX9 166 RX1 yX1_bear (.code yX1_bear cX1_bear 1 (some .int) :: gw)) ∧ (yX1_bear.cls = RX1 ∧ yX1_bear.cls ≠ "java/lang/invoke/MethodHandle" ∧ yX1_bear.cls ≠ "java/lang/invoke/VarHandle" ∧ (parseMethodDescriptor yX1_bear.desc).map (fun d => d.parameters.length) = some 0) := ⟨gi_V kw_4_157 kw_3_56 kw_3_57 kw_1_4 kw_3_58, by decide +kernel⟩
theorem dX9_cell_131 : decode cX9_cell 131 = .ok (.invokevirtual 166, 3) := by decide +kernel
theorem kw_4_158 : Cond.methodLink RX9 170 yX6_bearing ∈ gw := gw_t4 (List.mem_of_getElem? (i := 158) (by decide +kernel)) (by decide +kernel)
theorem gk_X9_170 : GoodIn gw (wsV RX9 170 RX6 yX6_bearing (.code yX6_bearing cX6_bearing 3 (some .int) :: gw)) ∧ (yX6_bearing.cls = RX6 ∧ yX6_bearing.cls ≠ "java/lang/invoke/MethodHandle" ∧ yX6_bearing.cls ≠ "java/lang/invoke/VarHandle" ∧ (parseMethodDescriptor yX6_bearing.desc).map (fun d => d.parameters.length) = some 2) := ⟨gi_V kw_4_158 kw_3_64 kw_3_65 kw_1_7 kw_3_66, by decide +kernel⟩
theorem dX9_cell_134 : decode cX9_cell 134 = .ok (.invokevirtual 170, 3) := by decide +kernel
theorem dX9_cell_137 : decode cX9_cell 137 = .ok (.ireturn, 1) := by decide +kernel
theorem dX9_cell_138 : decode cX9_cell 138 = .ok (.aload 4, 2) := by decide +kernel
theorem kw_1_156 : Cond.fieldLink RX9 173 "IceFair$River" "guest" "[I" ∈ gw := gw_t1 (List.mem_of_getElem? (i := 156) (by decide +kernel)) (by decide +kernel)
theorem dX9_cell_140 : decode cX9_cell 140 = .ok (.getfield 173, 3) := by decide +kernel
theorem dX9_cell_143 : decode cX9_cell 143 = .ok (.iload 5, 2) := by decide +kernel
theorem dX9_cell_145 : decode cX9_cell 145 = .ok (.iaload, 1) := by decide +kernel
theorem dX9_cell_146 : decode cX9_cell 146 = .ok (.ireturn, 1) := by decide +kernel
theorem kw_4_159 : Cond.classLink RX9 176 nNS ∈ gw := gw_t4 (List.mem_of_getElem? (i := 159) (by decide +kernel)) (by decide +kernel)
theorem kw_1_23 : Cond.initialized nNS ∈ gw := gw_t1 (List.mem_of_getElem? (i := 23) (by decide +kernel)) (by decide +kernel)
theorem dX9_cell_147 : decode cX9_cell 147 = .ok (.new 176, 3) := by decide +kernel
theorem dX9_cell_150 : decode cX9_cell 150 = .ok (.dup, 1) := by decide +kernel
theorem dX9_cell_151 : decode cX9_cell 151 = .ok (.ldc 178, 2) := by decide +kernel
theorem dX9_cell_153 : decode cX9_cell 153 = .ok (.invokespecial 180, 3) := by decide +kernel
theorem dX9_cell_156 : decode cX9_cell 156 = .ok (.athrow, 1) := by decide +kernel
set_option maxHeartbeats 4000000 in
set_option maxRecDepth 100000 in
theorem c_cell (l : Launch) (D : va_G) (e1 : Nat) (e2 : Nat) (e3 : Nat) (e4 : Nat) (h0 : Nat) (tp : Nat) (rd : Nat) (dr : Nat) (fa : Nat) (ly : Nat) (wy : Nat) (cu : Nat) (rv : Nat) (bt : Nat) (cu1 : Nat) (cu2 : Nat) (cu3 : Nat) (cu4 : Nat) (rv1 : Nat) (rv2 : Nat) (rv3 : Nat) (rv4 : Nat) (rv5 : Nat) (rv6 : Nat) (cc1 : ClassId) (rc1 : ClassId) (rc2 : ClassId) (rc3 : ClassId) (rc4 : ClassId) (rc5 : ClassId) (rc6 : ClassId) (x : Int32) (y : Int32) (w : Int32) (hlt : l.stackTraces = false) : cXi l yX9_cell (.code yX9_cell cX9_cell 6 (some .int)) ({ frames := 6, cells := 1, slots := 6, locals := 96 }) D [(cc1, .int), (rc1, .int), (rc2, .int), (rc3, .int), (rc4, .int), (rc5, .boolean), (rc6, .boolean)] [(h0, .inr (8, [.ref tp, .ref rd, .ref dr, .ref fa, .ref ly, .ref wy])), (fa, .inr (3, [.ref cu, .ref rv, .ref bt, .int 0, .int 0, .int 0])), (cu, .inr (1, [.ref cu1, .ref cu2, .ref cu3, .ref cu4, .int 0, .int 0])), (cu1, .inl (cc1, 8, .inl uF)), (rv, .inr (5, [.int 5, .int 5, .ref rv1, .ref rv2, .ref rv3, .ref rv4, .ref rv5, .ref rv6])), (rv1, .inl (rc1, 100, .inl (fun _ => 0))), (rv2, .inl (rc2, 100, .inl (fun _ => 0))), (rv3, .inl (rc3, 100, .inl (fun _ => 0))), (rv4, .inl (rc4, 100, .inl (fun _ => (-1)))), (rv5, .inl (rc5, 100, .inl (fun _ => 0))), (rv6, .inl (rc6, 100, .inl (fun _ => 0)))] (xE e1 e2 e3 e4) [.ref h0, .int x, .int y, .int w] (S := Unit) (fun r _ => (¬ (x < 0 ∨ ¬ x < nI 5 ∨ y < 0 ∨ ¬ y < nI 5)) ∧ ¬ (w < 0 ∨ 5 < w) ∧ r = (if w = 5 then (-1) else 0)) (fun _ => []) (fun _ => []) (fun E => (E = nIO ∧ (x < 0 ∨ ¬ x < nI 5 ∨ y < 0 ∨ ¬ y < nI 5)) ∨ (E = nNS ∧ ¬ (x < 0 ∨ ¬ x < nI 5 ∨ y < 0 ∨ ¬ y < nI 5) ∧ (w < 0 ∨ 5 < w))) := by
  intro sz
  refine vx_ofW (cc := cX9_cell) (maxL := 6) (ret := (some .int)) (by decide) rfl ?_
  intro p e s m args below meth c s₁ B hml hno hv
  obtain ⟨rfl, hsz, hP, hK, hD0, hX⟩ := hv
  have hx := B.exec
  have hb := B.bytes
  have hr := B.returns
  have hts0 := atoms_spec (ws := .code yX9_cell cX9_cell 6 (some .int) :: gw) B.pre
  have hts := fun (w : Cond) (h : w ∈ gw) => hts0 w (List.mem_cons_of_mem _ h)
  have hown : s.vm.findClass RX9 = some m.cls := findClass_of_methodNamed B.named
  have hlocks := B.notSynchronized
  have F : mFix p s m _ c cX9_cell 6 RX9 := ⟨hx, hb, hml, hown, hts⟩
  subst hsz
  have hD := hD0.self (sz := s.heap.size)
  generalize hAe : va_A [(h0, .inr (8, [.ref tp, .ref rd, .ref dr, .ref fa, .ref ly, .ref wy])), (fa, .inr (3, [.ref cu, .ref rv, .ref bt, .int 0, .int 0, .int 0])), (cu, .inr (1, [.ref cu1, .ref cu2, .ref cu3, .ref cu4, .int 0, .int 0])), (cu1, .inl (cc1, 8, .inl uF)), (rv, .inr (5, [.int 5, .int 5, .ref rv1, .ref rv2, .ref rv3, .ref rv4, .ref rv5, .ref rv6])), (rv1, .inl (rc1, 100, .inl (fun _ => 0))), (rv2, .inl (rc2, 100, .inl (fun _ => 0))), (rv3, .inl (rc3, 100, .inl (fun _ => 0))), (rv4, .inl (rc4, 100, .inl (fun _ => (-1)))), (rv5, .inl (rc5, 100, .inl (fun _ => 0))), (rv6, .inl (rc6, 100, .inl (fun _ => 0)))] s.heap.size = A at hD hX ⊢
  have hA : ∀ q : Nat, s.heap.size ≤ q → A q := fun q h => by rw [← hAe]; exact Or.inr h
  have hS : va_S A s.heap s.heap [] := va_S.rf
  have hl := lv_entry ([.ref h0, .int x, .int y, .int w]) (n := 6) (Nat.le_of_ble_eq_true rfl)
  rw [lg_entry_eq]
  generalize (lg_sl ([.ref h0, .int x, .int y, .int w]) ++ List.replicate (6 - (lg_sl ([.ref h0, .int x, .int y, .int w])).length) Slot.unset).toArray = ls at hl ⊢
  have hl : lv_has ls 6 [(0, .ref h0), (1, .int x), (2, .int y), (3, .int w)] := hl
  have hP : va_P D vwCl [(h0, .inr (8, [.ref tp, .ref rd, .ref dr, .ref fa, .ref ly, .ref wy])), (fa, .inr (3, [.ref cu, .ref rv, .ref bt, .int 0, .int 0, .int 0])), (cu, .inr (1, [.ref cu1, .ref cu2, .ref cu3, .ref cu4, .int 0, .int 0])), (cu1, .inl (cc1, 8, .inl uF)), (rv, .inr (5, [.int 5, .int 5, .ref rv1, .ref rv2, .ref rv3, .ref rv4, .ref rv5, .ref rv6])), (rv1, .inl (rc1, 100, .inl (fun _ => 0))), (rv2, .inl (rc2, 100, .inl (fun _ => 0))), (rv3, .inl (rc3, 100, .inl (fun _ => 0))), (rv4, .inl (rc4, 100, .inl (fun _ => (-1)))), (rv5, .inl (rc5, 100, .inl (fun _ => 0))), (rv6, .inl (rc6, 100, .inl (fun _ => 0)))] s.heap := hP
  refine lv_aload_n hx hb dX9_cell_0 rfl (lv_at hl 0 rfl) ?_
  refine va_get (D := D) (ci := 8) (v := .ref fa) (C := RX9) (T := TX9) (N := 6) hx hb hts inG_X9 hown hK hP 0 rfl rfl 3 (by decide) (hts _ kw_2_70) (fun _ h9 => h9) rfl dX9_cell_1 ?_
  refine va_get (D := D) (ci := 3) (v := .ref rv) (C := RX3) (T := TX3) (N := 6) hx hb hts inG_X3 hown hK hP 1 rfl rfl 1 (by decide) (hts _ kw_1_222) (fun _ h9 => h9) rfl dX9_cell_4 ?_
  refine lv_astore (lv' := [(4, .ref rv), (0, .ref h0), (1, .int x), (2, .int y), (3, .int w)]) hx hb dX9_cell_7 hl (by decide) rfl (fun ls hl => ?_)
  refine lv_aload hx hb dX9_cell_9 (lv_at hl 0 rfl) ?_
  refine lv_iload_n hx hb dX9_cell_11 rfl (lv_at hl 2 rfl) ?_
  refine lv_iload_n hx hb dX9_cell_12 rfl (lv_at hl 3 rfl) ?_
  refine mc_Vi (rest := []) (wr := [(h0, .inr (8, [.ref tp, .ref rd, .ref dr, .ref fa, .ref ly, .ref wy])), (fa, .inr (3, [.ref cu, .ref rv, .ref bt, .int 0, .int 0, .int 0])), (cu, .inr (1, [.ref cu1, .ref cu2, .ref cu3, .ref cu4, .int 0, .int 0])), (cu1, .inl (cc1, 8, .inl uF)), (rv1, .inl (rc1, 100, .inl (fun _ => 0))), (rv2, .inl (rc2, 100, .inl (fun _ => 0))), (rv3, .inl (rc3, 100, .inl (fun _ => 0))), (rv4, .inl (rc4, 100, .inl (fun _ => (-1)))), (rv5, .inl (rc5, 100, .inl (fun _ => 0))), (rv6, .inl (rc6, 100, .inl (fun _ => 0)))]) F hK hP hD hS hA (c_has_any l D rv rv1 rv2 rv3 rv4 rv5 rv6 5 5 x y (by omega) (by omega)) ⟨gk_X9_88.1, gk_X9_88.2, Nat.le_of_ble_eq_true rfl, Nat.le_of_ble_eq_true rfl⟩ [4] [0, 1, 2, 3, 5, 6, 7, 8, 9, 10] [] ⟨rfl, rfl, rfl, rfl, by decide⟩ rfl xT_move (fun _ _ _ => trivial) 4 rfl rfl rfl hl.1 rfl (Nat.le_of_ble_eq_true rfl) dX9_cell_13 ⟨Nat.le_of_ble_eq_true rfl, Nat.le_of_ble_eq_true rfl⟩ (fun r_1 _ H locs hw hK1 hP hD hS => ?_)
  have hP : va_P D vwCl [(h0, .inr (8, [.ref tp, .ref rd, .ref dr, .ref fa, .ref ly, .ref wy])), (fa, .inr (3, [.ref cu, .ref rv, .ref bt, .int 0, .int 0, .int 0])), (cu, .inr (1, [.ref cu1, .ref cu2, .ref cu3, .ref cu4, .int 0, .int 0])), (cu1, .inl (cc1, 8, .inl uF)), (rv1, .inl (rc1, 100, .inl (fun _ => 0))), (rv2, .inl (rc2, 100, .inl (fun _ => 0))), (rv3, .inl (rc3, 100, .inl (fun _ => 0))), (rv4, .inl (rc4, 100, .inl (fun _ => (-1)))), (rv5, .inl (rc5, 100, .inl (fun _ => 0))), (rv6, .inl (rc6, 100, .inl (fun _ => 0))), (rv, .inr (5, [.int 5, .int 5, .ref rv1, .ref rv2, .ref rv3, .ref rv4, .ref rv5, .ref rv6]))] H := hP
  have hD : va_D A [(h0, .inr (8, [.ref tp, .ref rd, .ref dr, .ref fa, .ref ly, .ref wy])), (fa, .inr (3, [.ref cu, .ref rv, .ref bt, .int 0, .int 0, .int 0])), (cu, .inr (1, [.ref cu1, .ref cu2, .ref cu3, .ref cu4, .int 0, .int 0])), (cu1, .inl (cc1, 8, .inl uF)), (rv1, .inl (rc1, 100, .inl (fun _ => 0))), (rv2, .inl (rc2, 100, .inl (fun _ => 0))), (rv3, .inl (rc3, 100, .inl (fun _ => 0))), (rv4, .inl (rc4, 100, .inl (fun _ => (-1)))), (rv5, .inl (rc5, 100, .inl (fun _ => 0))), (rv6, .inl (rc6, 100, .inl (fun _ => 0))), (rv, .inr (5, [.int 5, .int 5, .ref rv1, .ref rv2, .ref rv3, .ref rv4, .ref rv5, .ref rv6]))] := hD
  have hw_2 : r_1 = (if (x < 0 ∨ ¬ x < nI 5 ∨ y < 0 ∨ ¬ y < nI 5) then 0 else 1) := hw
  by_cases ho_3 : (x < 0 ∨ ¬ x < nI 5 ∨ y < 0 ∨ ¬ y < nI 5)
  · skip
    obtain rfl : r_1 = 0 := by rw [hw_2, if_pos ho_3]
    refine lv_if_ne (tgt := 29) hx hb dX9_cell_16 (by decide) (fun c_4 => absurd c_4 (by decide)) (fun c_4 => ?_)
    exact vx_throwS hx hb hlt hown (by decide +kernel) (by decide +kernel) (hts _ kw_4_89) (hts _ kw_1_22) hX.2.2.1.1 (hatE1 hts hX) (otE1 142) hX.1 hX.2.1 hS (hl.1.trans hml.symm) dX9_cell_19 dX9_cell_22 dX9_cell_23 dX9_cell_25 dX9_cell_28 (fun x hx => (hno x hx).elim) (Nat.le_of_ble_eq_true rfl) (Nat.le_of_ble_eq_true rfl) (Nat.le_of_ble_eq_true rfl) (Nat.le_of_ble_eq_true rfl) hlocks (fun t _ h1 h2 => ⟨(), trivial, Or.inl ⟨rfl, ho_3⟩, vaF_thrown hS h1 h2⟩) hS.2.2 (by decide) (by decide)
  · skip
    obtain rfl : r_1 = 1 := by rw [hw_2, if_neg ho_3]
    obtain ⟨i_5, hi_5, ei_5⟩ : ∃ j : Nat, j < 5 ∧ x = nI j := n_lt (fun q => ho_3 (Or.inl q)) (fun q => ho_3 (Or.inr (Or.inl (Int32.not_lt.mpr q)))) (by omega)
    obtain ⟨j_6, hj_6, ej_6⟩ : ∃ j : Nat, j < 5 ∧ y = nI j := n_lt (fun q => ho_3 (Or.inr (Or.inr (Or.inl q)))) (fun q => ho_3 (Or.inr (Or.inr (Or.inr (Int32.not_lt.mpr q))))) (by omega)
    subst ei_5
    subst ej_6
    have hl : lv_has ls 6 [(4, .ref rv), (0, .ref h0), (1, .int (nI i_5)), (2, .int (nI j_6)), (3, .int w)] := hl
    refine lv_if_ne (tgt := 29) hx hb dX9_cell_16 (by decide) (fun c_7 => ?_) (fun c_7 => absurd c_7 (by decide))
    refine lv_aload hx hb dX9_cell_29 (lv_at hl 0 rfl) ?_
    refine lv_iload_n hx hb dX9_cell_31 rfl (lv_at hl 2 rfl) ?_
    refine lv_iload_n hx hb dX9_cell_32 rfl (lv_at hl 3 rfl) ?_
    refine mc_Vi (rest := []) (wr := [(h0, .inr (8, [.ref tp, .ref rd, .ref dr, .ref fa, .ref ly, .ref wy])), (fa, .inr (3, [.ref cu, .ref rv, .ref bt, .int 0, .int 0, .int 0])), (cu, .inr (1, [.ref cu1, .ref cu2, .ref cu3, .ref cu4, .int 0, .int 0])), (cu1, .inl (cc1, 8, .inl uF)), (rv1, .inl (rc1, 100, .inl (fun _ => 0))), (rv2, .inl (rc2, 100, .inl (fun _ => 0))), (rv3, .inl (rc3, 100, .inl (fun _ => 0))), (rv4, .inl (rc4, 100, .inl (fun _ => (-1)))), (rv5, .inl (rc5, 100, .inl (fun _ => 0))), (rv6, .inl (rc6, 100, .inl (fun _ => 0)))]) F hK hP hD hS hA (c_spotOf l D rv rv1 rv2 rv3 rv4 rv5 rv6 5 5 i_5 j_6 ) ⟨gk_X9_149.1, gk_X9_149.2, Nat.le_of_ble_eq_true rfl, Nat.le_of_ble_eq_true rfl⟩ [10] [0, 1, 2, 3, 4, 5, 6, 7, 8, 9] [] ⟨rfl, rfl, rfl, rfl, by decide⟩ rfl xT_move (fun _ _ _ => trivial) 10 rfl rfl rfl hl.1 rfl (Nat.le_of_ble_eq_true rfl) dX9_cell_33 ⟨Nat.le_of_ble_eq_true rfl, Nat.le_of_ble_eq_true rfl⟩ (fun r_8 _ H locs hw hK1 hP hD hS => ?_)
    have hP : va_P D vwCl [(h0, .inr (8, [.ref tp, .ref rd, .ref dr, .ref fa, .ref ly, .ref wy])), (fa, .inr (3, [.ref cu, .ref rv, .ref bt, .int 0, .int 0, .int 0])), (cu, .inr (1, [.ref cu1, .ref cu2, .ref cu3, .ref cu4, .int 0, .int 0])), (cu1, .inl (cc1, 8, .inl uF)), (rv1, .inl (rc1, 100, .inl (fun _ => 0))), (rv2, .inl (rc2, 100, .inl (fun _ => 0))), (rv3, .inl (rc3, 100, .inl (fun _ => 0))), (rv4, .inl (rc4, 100, .inl (fun _ => (-1)))), (rv5, .inl (rc5, 100, .inl (fun _ => 0))), (rv6, .inl (rc6, 100, .inl (fun _ => 0))), (rv, .inr (5, [.int 5, .int 5, .ref rv1, .ref rv2, .ref rv3, .ref rv4, .ref rv5, .ref rv6]))] H := hP
    have hD : va_D A [(h0, .inr (8, [.ref tp, .ref rd, .ref dr, .ref fa, .ref ly, .ref wy])), (fa, .inr (3, [.ref cu, .ref rv, .ref bt, .int 0, .int 0, .int 0])), (cu, .inr (1, [.ref cu1, .ref cu2, .ref cu3, .ref cu4, .int 0, .int 0])), (cu1, .inl (cc1, 8, .inl uF)), (rv1, .inl (rc1, 100, .inl (fun _ => 0))), (rv2, .inl (rc2, 100, .inl (fun _ => 0))), (rv3, .inl (rc3, 100, .inl (fun _ => 0))), (rv4, .inl (rc4, 100, .inl (fun _ => (-1)))), (rv5, .inl (rc5, 100, .inl (fun _ => 0))), (rv6, .inl (rc6, 100, .inl (fun _ => 0))), (rv, .inr (5, [.int 5, .int 5, .ref rv1, .ref rv2, .ref rv3, .ref rv4, .ref rv5, .ref rv6]))] := hD
    have hw_9 : r_8 = nI (j_6 * 10 + i_5) := hw
    obtain rfl : r_8 = nI (j_6 * 10 + i_5) := hw_9
    refine lv_istore (lv' := [(5, .int (nI (j_6 * 10 + i_5))), (4, .ref rv), (0, .ref h0), (1, .int (nI i_5)), (2, .int (nI j_6)), (3, .int w)]) hx hb dX9_cell_36 hl (by decide) rfl (fun ls hl => ?_)
    refine lv_iload_n hx hb dX9_cell_38 rfl (lv_at hl 5 rfl) ?_
    by_cases w_10_0 : w = 0
    · skip
      subst w_10_0
      refine lv_tableIn (tgt := 76) hx hb dX9_cell_39 (by decide) (by decide) rfl (by decide) ?_
      have hl : lv_has ls 6 [(5, .int (nI (j_6 * 10 + i_5))), (4, .ref rv), (0, .ref h0), (1, .int (nI i_5)), (2, .int (nI j_6)), (3, .int 0)] := hl
      refine lv_aload hx hb dX9_cell_76 (lv_at hl 1 rfl) ?_
      refine va_get (D := D) (ci := 5) (v := .ref rv1) (C := RX6) (T := TX6) (N := 8) hx hb hts inG_X6 hown hK hP 10 rfl rfl 2 (by decide) (hts _ kw_1_149) (fun _ h9 => h9) rfl dX9_cell_78 ?_
      refine lv_iload hx hb dX9_cell_81 (lv_at hl 0 rfl) ?_
      refine m_iald hx hb hK hP 4 1 rfl rfl (j_6 * 10 + i_5) rfl (by omega) (by decide) dX9_cell_83 ?_
      have hP9 := hP.sub (ws' := []) [] rfl
      have hD9 := hD.sub (ws' := []) [] (by decide) rfl
      have hK9 := hK.sub (tys' := []) [] rfl
      refine W.widen (k := 1) (n := 6) (by decide) (by decide) ?_
      refine vx_ret ?_
      exact W.iret (v := 0) hx hb hr (fun t ht hW => ⟨⟨0, (), rfl, ⟨ho_3, by decide, by decide⟩, by rw [ht]; exact hP9, va_K.moved hW.alike hK9, hD9⟩, hS.F ht⟩) hS.2.2 dX9_cell_84
    by_cases w_10_1 : w = 1
    · skip
      subst w_10_1
      refine lv_tableIn (tgt := 85) hx hb dX9_cell_39 (by decide) (by decide) rfl (by decide) ?_
      have hl : lv_has ls 6 [(5, .int (nI (j_6 * 10 + i_5))), (4, .ref rv), (0, .ref h0), (1, .int (nI i_5)), (2, .int (nI j_6)), (3, .int 1)] := hl
      refine lv_aload hx hb dX9_cell_85 (lv_at hl 1 rfl) ?_
      refine va_get (D := D) (ci := 5) (v := .ref rv2) (C := RX6) (T := TX6) (N := 8) hx hb hts inG_X6 hown hK hP 10 rfl rfl 3 (by decide) (hts _ kw_1_151) (fun _ h9 => h9) rfl dX9_cell_87 ?_
      refine lv_iload hx hb dX9_cell_90 (lv_at hl 0 rfl) ?_
      refine m_iald hx hb hK hP 5 2 rfl rfl (j_6 * 10 + i_5) rfl (by omega) (by decide) dX9_cell_92 ?_
      have hP9 := hP.sub (ws' := []) [] rfl
      have hD9 := hD.sub (ws' := []) [] (by decide) rfl
      have hK9 := hK.sub (tys' := []) [] rfl
      refine W.widen (k := 1) (n := 6) (by decide) (by decide) ?_
      refine vx_ret ?_
      exact W.iret (v := 0) hx hb hr (fun t ht hW => ⟨⟨0, (), rfl, ⟨ho_3, by decide, by decide⟩, by rw [ht]; exact hP9, va_K.moved hW.alike hK9, hD9⟩, hS.F ht⟩) hS.2.2 dX9_cell_93
    by_cases w_10_2 : w = 2
    · skip
      subst w_10_2
      refine lv_tableIn (tgt := 94) hx hb dX9_cell_39 (by decide) (by decide) rfl (by decide) ?_
      have hl : lv_has ls 6 [(5, .int (nI (j_6 * 10 + i_5))), (4, .ref rv), (0, .ref h0), (1, .int (nI i_5)), (2, .int (nI j_6)), (3, .int 2)] := hl
      refine lv_aload hx hb dX9_cell_94 (lv_at hl 1 rfl) ?_
      refine va_get (D := D) (ci := 5) (v := .ref rv5) (C := RX6) (T := TX6) (N := 8) hx hb hts inG_X6 hown hK hP 10 rfl rfl 6 (by decide) (hts _ kw_1_158) (fun _ h9 => h9) rfl dX9_cell_96 ?_
      refine lv_iload hx hb dX9_cell_99 (lv_at hl 0 rfl) ?_
      refine m_zald hx hb hK hP 8 5 rfl rfl (j_6 * 10 + i_5) rfl (by omega) (by decide) dX9_cell_101 ?_
      refine lv_if_eq (tgt := 109) hx hb dX9_cell_102 (by decide) (fun c_11 => ?_) (fun c_11 => absurd c_11 (by decide))
      refine lv_iconst (v := 0) hx hb dX9_cell_109 (by decide) ?_
      have hP9 := hP.sub (ws' := []) [] rfl
      have hD9 := hD.sub (ws' := []) [] (by decide) rfl
      have hK9 := hK.sub (tys' := []) [] rfl
      refine W.widen (k := 1) (n := 6) (by decide) (by decide) ?_
      refine vx_ret ?_
      exact W.iret (v := 0) hx hb hr (fun t ht hW => ⟨⟨0, (), rfl, ⟨ho_3, by decide, by decide⟩, by rw [ht]; exact hP9, va_K.moved hW.alike hK9, hD9⟩, hS.F ht⟩) hS.2.2 dX9_cell_110
    by_cases w_10_3 : w = 3
    · skip
      subst w_10_3
      refine lv_tableIn (tgt := 111) hx hb dX9_cell_39 (by decide) (by decide) rfl (by decide) ?_
      have hl : lv_has ls 6 [(5, .int (nI (j_6 * 10 + i_5))), (4, .ref rv), (0, .ref h0), (1, .int (nI i_5)), (2, .int (nI j_6)), (3, .int 3)] := hl
      refine lv_aload hx hb dX9_cell_111 (lv_at hl 1 rfl) ?_
      refine va_get (D := D) (ci := 5) (v := .ref rv3) (C := RX6) (T := TX6) (N := 8) hx hb hts inG_X6 hown hK hP 10 rfl rfl 4 (by decide) (hts _ kw_1_153) (fun _ h9 => h9) rfl dX9_cell_113 ?_
      refine lv_iload hx hb dX9_cell_116 (lv_at hl 0 rfl) ?_
      refine m_iald hx hb hK hP 6 3 rfl rfl (j_6 * 10 + i_5) rfl (by omega) (by decide) dX9_cell_118 ?_
      have hP9 := hP.sub (ws' := []) [] rfl
      have hD9 := hD.sub (ws' := []) [] (by decide) rfl
      have hK9 := hK.sub (tys' := []) [] rfl
      refine W.widen (k := 1) (n := 6) (by decide) (by decide) ?_
      refine vx_ret ?_
      exact W.iret (v := 0) hx hb hr (fun t ht hW => ⟨⟨0, (), rfl, ⟨ho_3, by decide, by decide⟩, by rw [ht]; exact hP9, va_K.moved hW.alike hK9, hD9⟩, hS.F ht⟩) hS.2.2 dX9_cell_119
    by_cases w_10_4 : w = 4
    · skip
      subst w_10_4
      refine lv_tableIn (tgt := 120) hx hb dX9_cell_39 (by decide) (by decide) rfl (by decide) ?_
      have hl : lv_has ls 6 [(5, .int (nI (j_6 * 10 + i_5))), (4, .ref rv), (0, .ref h0), (1, .int (nI i_5)), (2, .int (nI j_6)), (3, .int 4)] := hl
      refine lv_aload hx hb dX9_cell_120 (lv_at hl 1 rfl) ?_
      refine lv_iload hx hb dX9_cell_122 (lv_at hl 0 rfl) ?_
      refine lv_aload_n hx hb dX9_cell_124 rfl (lv_at hl 2 rfl) ?_
      refine va_get (D := D) (ci := 8) (v := .ref fa) (C := RX9) (T := TX9) (N := 6) hx hb hts inG_X9 hown hK hP 0 rfl rfl 3 (by decide) (hts _ kw_2_70) (fun _ h9 => h9) rfl dX9_cell_125 ?_
      refine va_get (D := D) (ci := 3) (v := .ref cu) (C := RX3) (T := TX3) (N := 6) hx hb hts inG_X3 hown hK hP 1 rfl rfl 0 (by decide) (hts _ kw_1_218) (fun _ h9 => h9) rfl dX9_cell_128 ?_
      refine mc_Vi (rest := [.int (nI (j_6 * 10 + i_5)), .ref rv]) (wr := [(h0, .inr (8, [.ref tp, .ref rd, .ref dr, .ref fa, .ref ly, .ref wy])), (fa, .inr (3, [.ref cu, .ref rv, .ref bt, .int 0, .int 0, .int 0])), (rv1, .inl (rc1, 100, .inl (fun _ => 0))), (rv2, .inl (rc2, 100, .inl (fun _ => 0))), (rv3, .inl (rc3, 100, .inl (fun _ => 0))), (rv4, .inl (rc4, 100, .inl (fun _ => (-1)))), (rv5, .inl (rc5, 100, .inl (fun _ => 0))), (rv6, .inl (rc6, 100, .inl (fun _ => 0))), (rv, .inr (5, [.int 5, .int 5, .ref rv1, .ref rv2, .ref rv3, .ref rv4, .ref rv5, .ref rv6]))]) F hK hP hD hS hA (c_cu_bear l D cu cu1 cu2 cu3 cu4 cc1 0 0 ) ⟨gk_X9_166.1, gk_X9_166.2, Nat.le_of_ble_eq_true rfl, Nat.le_of_ble_eq_true rfl⟩ [2, 3] [0, 1, 4, 5, 6, 7, 8, 9, 10] [0] ⟨rfl, rfl, rfl, rfl, by decide⟩ rfl xT_move (fun _ _ _ => trivial) 2 rfl rfl rfl hl.1 rfl (Nat.le_of_ble_eq_true rfl) dX9_cell_131 ⟨Nat.le_of_ble_eq_true rfl, Nat.le_of_ble_eq_true rfl⟩ (fun r_12 _ H locs hw hK1 hP hD hS => ?_)
      have hP : va_P D vwCl [(h0, .inr (8, [.ref tp, .ref rd, .ref dr, .ref fa, .ref ly, .ref wy])), (fa, .inr (3, [.ref cu, .ref rv, .ref bt, .int 0, .int 0, .int 0])), (rv1, .inl (rc1, 100, .inl (fun _ => 0))), (rv2, .inl (rc2, 100, .inl (fun _ => 0))), (rv3, .inl (rc3, 100, .inl (fun _ => 0))), (rv4, .inl (rc4, 100, .inl (fun _ => (-1)))), (rv5, .inl (rc5, 100, .inl (fun _ => 0))), (rv6, .inl (rc6, 100, .inl (fun _ => 0))), (rv, .inr (5, [.int 5, .int 5, .ref rv1, .ref rv2, .ref rv3, .ref rv4, .ref rv5, .ref rv6])), (cu, .inr (1, [.ref cu1, .ref cu2, .ref cu3, .ref cu4, .int 0, .int 0])), (cu1, .inl (cc1, 8, .inl uF))] H := hP
      have hD : va_D A [(h0, .inr (8, [.ref tp, .ref rd, .ref dr, .ref fa, .ref ly, .ref wy])), (fa, .inr (3, [.ref cu, .ref rv, .ref bt, .int 0, .int 0, .int 0])), (rv1, .inl (rc1, 100, .inl (fun _ => 0))), (rv2, .inl (rc2, 100, .inl (fun _ => 0))), (rv3, .inl (rc3, 100, .inl (fun _ => 0))), (rv4, .inl (rc4, 100, .inl (fun _ => (-1)))), (rv5, .inl (rc5, 100, .inl (fun _ => 0))), (rv6, .inl (rc6, 100, .inl (fun _ => 0))), (rv, .inr (5, [.int 5, .int 5, .ref rv1, .ref rv2, .ref rv3, .ref rv4, .ref rv5, .ref rv6])), (cu, .inr (1, [.ref cu1, .ref cu2, .ref cu3, .ref cu4, .int 0, .int 0])), (cu1, .inl (cc1, 8, .inl uF))] := hD
      have hw_13 : r_12 = 100 := hw
      obtain rfl : r_12 = 100 := hw_13
      refine mc_Vi (rest := []) (wr := [(h0, .inr (8, [.ref tp, .ref rd, .ref dr, .ref fa, .ref ly, .ref wy])), (fa, .inr (3, [.ref cu, .ref rv, .ref bt, .int 0, .int 0, .int 0])), (rv2, .inl (rc2, 100, .inl (fun _ => 0))), (rv3, .inl (rc3, 100, .inl (fun _ => 0))), (rv4, .inl (rc4, 100, .inl (fun _ => (-1)))), (rv5, .inl (rc5, 100, .inl (fun _ => 0))), (rv6, .inl (rc6, 100, .inl (fun _ => 0))), (cu, .inr (1, [.ref cu1, .ref cu2, .ref cu3, .ref cu4, .int 0, .int 0])), (cu1, .inl (cc1, 8, .inl uF))]) F hK hP hD hS hA (c_bearing l D rv rv1 rv2 rv3 rv4 rv5 rv6 rc1 (fun _ => 0) 5 5 (j_6 * 10 + i_5) 100 (by omega)) ⟨gk_X9_170.1, gk_X9_170.2, Nat.le_of_ble_eq_true rfl, Nat.le_of_ble_eq_true rfl⟩ [8, 2] [0, 1, 3, 4, 5, 6, 7, 9, 10] [1] ⟨rfl, rfl, rfl, rfl, by decide⟩ rfl xT_move (fun _ _ _ => trivial) 8 rfl rfl rfl hl.1 rfl (Nat.le_of_ble_eq_true rfl) dX9_cell_134 ⟨Nat.le_of_ble_eq_true rfl, Nat.le_of_ble_eq_true rfl⟩ (fun r_14 _ H locs hw hK1 hP hD hS => ?_)
      have hP : va_P D vwCl [(h0, .inr (8, [.ref tp, .ref rd, .ref dr, .ref fa, .ref ly, .ref wy])), (fa, .inr (3, [.ref cu, .ref rv, .ref bt, .int 0, .int 0, .int 0])), (rv2, .inl (rc2, 100, .inl (fun _ => 0))), (rv3, .inl (rc3, 100, .inl (fun _ => 0))), (rv4, .inl (rc4, 100, .inl (fun _ => (-1)))), (rv5, .inl (rc5, 100, .inl (fun _ => 0))), (rv6, .inl (rc6, 100, .inl (fun _ => 0))), (cu, .inr (1, [.ref cu1, .ref cu2, .ref cu3, .ref cu4, .int 0, .int 0])), (cu1, .inl (cc1, 8, .inl uF)), (rv, .inr (5, [.int 5, .int 5, .ref rv1, .ref rv2, .ref rv3, .ref rv4, .ref rv5, .ref rv6])), (rv1, .inl (rc1, 100, .inl ((fun _ => 0))))] H := hP
      have hD : va_D A [(h0, .inr (8, [.ref tp, .ref rd, .ref dr, .ref fa, .ref ly, .ref wy])), (fa, .inr (3, [.ref cu, .ref rv, .ref bt, .int 0, .int 0, .int 0])), (rv2, .inl (rc2, 100, .inl (fun _ => 0))), (rv3, .inl (rc3, 100, .inl (fun _ => 0))), (rv4, .inl (rc4, 100, .inl (fun _ => (-1)))), (rv5, .inl (rc5, 100, .inl (fun _ => 0))), (rv6, .inl (rc6, 100, .inl (fun _ => 0))), (cu, .inr (1, [.ref cu1, .ref cu2, .ref cu3, .ref cu4, .int 0, .int 0])), (cu1, .inl (cc1, 8, .inl uF)), (rv, .inr (5, [.int 5, .int 5, .ref rv1, .ref rv2, .ref rv3, .ref rv4, .ref rv5, .ref rv6])), (rv1, .inl (rc1, 100, .inl ((fun _ => 0))))] := hD
      have hw_15 : r_14 = (fun _ => 0) (j_6 * 10 + i_5) * (fun _ => 0) (j_6 * 10 + i_5) * 100 / 100 := hw
      obtain rfl : r_14 = 0 := hw_15.trans (by show (0 : Int32) * 0 * 100 / 100 = 0; decide)
      have hP9 := hP.sub (ws' := []) [] rfl
      have hD9 := hD.sub (ws' := []) [] (by decide) rfl
      have hK9 := hK.sub (tys' := []) [] rfl
      refine W.widen (k := 1) (n := 6) (by decide) (by decide) ?_
      refine vx_ret ?_
      exact W.iret (v := 0) hx hb hr (fun t ht hW => ⟨⟨0, (), rfl, ⟨ho_3, by decide, by decide⟩, by rw [ht]; exact hP9, va_K.moved hW.alike hK9, hD9⟩, hS.F ht⟩) hS.2.2 dX9_cell_137
    by_cases w_10_5 : w = 5
    · skip
      subst w_10_5
      refine lv_tableIn (tgt := 138) hx hb dX9_cell_39 (by decide) (by decide) rfl (by decide) ?_
      have hl : lv_has ls 6 [(5, .int (nI (j_6 * 10 + i_5))), (4, .ref rv), (0, .ref h0), (1, .int (nI i_5)), (2, .int (nI j_6)), (3, .int 5)] := hl
      refine lv_aload hx hb dX9_cell_138 (lv_at hl 1 rfl) ?_
      refine va_get (D := D) (ci := 5) (v := .ref rv4) (C := RX6) (T := TX6) (N := 8) hx hb hts inG_X6 hown hK hP 10 rfl rfl 5 (by decide) (hts _ kw_1_156) (fun _ h9 => h9) rfl dX9_cell_140 ?_
      refine lv_iload hx hb dX9_cell_143 (lv_at hl 0 rfl) ?_
      refine m_iald hx hb hK hP 7 4 rfl rfl (j_6 * 10 + i_5) rfl (by omega) (by decide) dX9_cell_145 ?_
      have hP9 := hP.sub (ws' := []) [] rfl
      have hD9 := hD.sub (ws' := []) [] (by decide) rfl
      have hK9 := hK.sub (tys' := []) [] rfl
      refine W.widen (k := 1) (n := 6) (by decide) (by decide) ?_
      refine vx_ret ?_
      exact W.iret (v := (-1)) hx hb hr (fun t ht hW => ⟨⟨((-1)), (), rfl, ⟨ho_3, by decide, by decide⟩, by rw [ht]; exact hP9, va_K.moved hW.alike hK9, hD9⟩, hS.F ht⟩) hS.2.2 dX9_cell_146
    refine lv_tableOut (tgt := 147) hx hb dX9_cell_39 (m_out w (by decide) (by decide) (fun j h1 h2 => ?_)) (by decide) ?_
    · skip
      rcases (show j = 0 ∨ j = 1 ∨ j = 2 ∨ j = 3 ∨ j = 4 ∨ j = 5 by omega) with rfl | rfl | rfl | rfl | rfl | rfl
      · exact w_10_0
      · exact w_10_1
      · exact w_10_2
      · exact w_10_3
      · exact w_10_4
      · exact w_10_5
    exact mx_throwX (Yn := nRT) (ix := 13) (bytes := prog_23_method_4_code) (names := [nEX]) hx hb hlt hown (by decide +kernel) (by decide +kernel) (by decide +kernel) (by decide +kernel) (by decide +kernel) (by decide +kernel) (by decide +kernel) (hts _ kw_4_159) (hts _ kw_1_23) hX.2.2.1.2.1 (hatE2 hts hX) (otE2 176) hX.1 hX.2.1 hS (hl.1.trans hml.symm) dX9_cell_147 dX9_cell_150 dX9_cell_151 dX9_cell_153 dX9_cell_156 (fun x hx => (hno x hx).elim) (Nat.le_of_ble_eq_true rfl) (Nat.le_of_ble_eq_true rfl) (Nat.le_of_ble_eq_true rfl) (Nat.le_of_ble_eq_true rfl) hlocks (fun t _ h1 h2 => ⟨(), trivial, Or.inr ⟨rfl, ho_3, cell_out w_10_0 w_10_1 w_10_2 w_10_3 w_10_4 w_10_5⟩, vaF_thrown hS h1 h2⟩) hS.2.2 (by decide) (by decide)
theorem dX9_look_0 : decode cX9_look 0 = .ok (.aload_n 0, 1) := by decide +kernel
theorem dX9_look_1 : decode cX9_look 1 = .ok (.getfield 33, 3) := by decide +kernel
theorem dX9_look_4 : decode cX9_look 4 = .ok (.iload_n 1, 1) := by decide +kernel
theorem dX9_look_5 : decode cX9_look 5 = .ok (.invokevirtual 102, 3) := by decide +kernel
theorem dX9_look_8 : decode cX9_look 8 = .ok (.astore_n 3, 1) := by decide +kernel
theorem dX9_look_9 : decode cX9_look 9 = .ok (.aload_n 3, 1) := by decide +kernel
theorem dX9_look_10 : decode cX9_look 10 = .ok (.ifnonnull 13, 3) := by decide +kernel
theorem dX9_look_13 : decode cX9_look 13 = .ok (.new 142, 3) := by decide +kernel
theorem dX9_look_16 : decode cX9_look 16 = .ok (.dup, 1) := by decide +kernel
theorem dX9_look_17 : decode cX9_look 17 = .ok (.ldc 181, 2) := by decide +kernel
theorem dX9_look_19 : decode cX9_look 19 = .ok (.invokespecial 146, 3) := by decide +kernel
theorem dX9_look_22 : decode cX9_look 22 = .ok (.athrow, 1) := by decide +kernel
set_option maxHeartbeats 4000000 in
set_option maxRecDepth 100000 in
theorem c_look (l : Launch) (D : va_G) (e1 : Nat) (e2 : Nat) (e3 : Nat) (e4 : Nat) (h0 : Nat) (tp : Nat) (rd : Nat) (dr : Nat) (fa : Nat) (ly : Nat) (wy : Nat) (cu : Nat) (rv : Nat) (bt : Nat) (x1 : Int32) (x2 : Int32) (hlt : l.stackTraces = false) : cXi l yX9_look (.code yX9_look cX9_look 4 (some .int)) ({ frames := 6, cells := 1, slots := 6, locals := 129 }) D [] [(h0, .inr (8, [.ref tp, .ref rd, .ref dr, .ref fa, .ref ly, .ref wy])), (fa, .inr (3, [.ref cu, .ref rv, .ref bt, .int 0, .int 0, .int 0]))] (xE e1 e2 e3 e4) [.ref h0, .int x1, .int x2] (S := Unit) (fun r _ => False) (fun _ => []) (fun _ => []) (fun E => E = nIO) := by
  intro sz
  refine vx_ofW (cc := cX9_look) (maxL := 4) (ret := (some .int)) (by decide) rfl ?_
  intro p e s m args below meth c s₁ B hml hno hv
  obtain ⟨rfl, hsz, hP, hK, hD0, hX⟩ := hv
  have hx := B.exec
  have hb := B.bytes
  have hr := B.returns
  have hts0 := atoms_spec (ws := .code yX9_look cX9_look 4 (some .int) :: gw) B.pre
  have hts := fun (w : Cond) (h : w ∈ gw) => hts0 w (List.mem_cons_of_mem _ h)
  have hown : s.vm.findClass RX9 = some m.cls := findClass_of_methodNamed B.named
  have hlocks := B.notSynchronized
  have F : mFix p s m _ c cX9_look 4 RX9 := ⟨hx, hb, hml, hown, hts⟩
  subst hsz
  have hD := hD0.self (sz := s.heap.size)
  generalize hAe : va_A [(h0, .inr (8, [.ref tp, .ref rd, .ref dr, .ref fa, .ref ly, .ref wy])), (fa, .inr (3, [.ref cu, .ref rv, .ref bt, .int 0, .int 0, .int 0]))] s.heap.size = A at hD hX ⊢
  have hA : ∀ q : Nat, s.heap.size ≤ q → A q := fun q h => by rw [← hAe]; exact Or.inr h
  have hS : va_S A s.heap s.heap [] := va_S.rf
  have hl := lv_entry ([.ref h0, .int x1, .int x2]) (n := 4) (Nat.le_of_ble_eq_true rfl)
  rw [lg_entry_eq]
  generalize (lg_sl ([.ref h0, .int x1, .int x2]) ++ List.replicate (4 - (lg_sl ([.ref h0, .int x1, .int x2])).length) Slot.unset).toArray = ls at hl ⊢
  have hl : lv_has ls 4 [(0, .ref h0), (1, .int x1), (2, .int x2)] := hl
  have hP : va_P D vwCl [(h0, .inr (8, [.ref tp, .ref rd, .ref dr, .ref fa, .ref ly, .ref wy])), (fa, .inr (3, [.ref cu, .ref rv, .ref bt, .int 0, .int 0, .int 0]))] s.heap := hP
  refine lv_aload_n hx hb dX9_look_0 rfl (lv_at hl 0 rfl) ?_
  refine va_get (D := D) (ci := 8) (v := .ref fa) (C := RX9) (T := TX9) (N := 6) hx hb hts inG_X9 hown hK hP 0 rfl rfl 3 (by decide) (hts _ kw_2_70) (fun _ h9 => h9) rfl dX9_look_1 ?_
  refine lv_iload_n hx hb dX9_look_4 rfl (lv_at hl 1 rfl) ?_
  refine mc_Vq (rest := []) (wr := [(h0, .inr (8, [.ref tp, .ref rd, .ref dr, .ref fa, .ref ly, .ref wy]))]) F hK hP hD hS hA (c_boothNone l D fa cu rv bt 0 0 x1 ) ⟨gk_X9_102.1, gk_X9_102.2, Nat.le_of_ble_eq_true rfl, Nat.le_of_ble_eq_true rfl⟩ [1] [0] [] ⟨rfl, rfl, rfl, rfl, by decide⟩ rfl xT_move (fun _ _ _ => trivial) 1 rfl rfl rfl hl.1 rfl (Nat.le_of_ble_eq_true rfl) dX9_look_5 ⟨Nat.le_of_ble_eq_true rfl, Nat.le_of_ble_eq_true rfl⟩ (fun r_1 _ H locs hw hK1 hP hD hS => ?_)
  have hP : va_P D vwCl [(h0, .inr (8, [.ref tp, .ref rd, .ref dr, .ref fa, .ref ly, .ref wy])), (fa, .inr (3, [.ref cu, .ref rv, .ref bt, .int 0, .int 0, .int 0]))] H := hP
  have hD : va_D A [(h0, .inr (8, [.ref tp, .ref rd, .ref dr, .ref fa, .ref ly, .ref wy])), (fa, .inr (3, [.ref cu, .ref rv, .ref bt, .int 0, .int 0, .int 0]))] := hD
  have hw_2 : r_1 = none := hw
  obtain rfl : r_1 = none := hw_2
  refine W.eq (g2 := F0 m 8 ls [.null]) rfl ?_
  refine lv_astore_nN (lv' := [(3, .null), (0, .ref h0), (1, .int x1), (2, .int x2)]) hx hb dX9_look_8 rfl hl (by decide) rfl (fun ls hl => ?_)
  refine lv_aload_nN hx hb dX9_look_9 rfl (lv_at hl 0 rfl) ?_
  refine lv_ifnonnullN hx hb dX9_look_10 ?_
  exact vx_throwS hx hb hlt hown (by decide +kernel) (by decide +kernel) (hts _ kw_4_89) (hts _ kw_1_22) hX.2.2.1.2.2.1 (hatE1 hts hX) (otE1 142) hX.1 hX.2.1 hS (hl.1.trans hml.symm) dX9_look_13 dX9_look_16 dX9_look_17 dX9_look_19 dX9_look_22 (fun x hx => (hno x hx).elim) (Nat.le_of_ble_eq_true rfl) (Nat.le_of_ble_eq_true rfl) (Nat.le_of_ble_eq_true rfl) (Nat.le_of_ble_eq_true rfl) hlocks (fun t _ h1 h2 => ⟨(), trivial, rfl, vaF_thrown hS h1 h2⟩) hS.2.2 (by decide) (by decide)
theorem dL_cell_0 : decode cL_cell 0 = .ok (.aload 4, 2) := by decide +kernel
theorem dL_cell_2 : decode cL_cell 2 = .ok (.iconst 0, 1) := by decide +kernel
theorem dL_cell_3 : decode cL_cell 3 = .ok (.aload_n 0, 1) := by decide +kernel
theorem dL_cell_4 : decode cL_cell 4 = .ok (.iload_n 1, 1) := by decide +kernel
theorem dL_cell_5 : decode cL_cell 5 = .ok (.iload_n 2, 1) := by decide +kernel
theorem dL_cell_6 : decode cL_cell 6 = .ok (.iload_n 3, 1) := by decide +kernel
theorem kw_4_85 : Cond.methodLink RL 7 yX9_cell ∈ gw := gw_t4 (List.mem_of_getElem? (i := 85) (by decide +kernel)) (by decide +kernel)
theorem kw_4_86 : Cond.instanceMethod yX9_cell ∈ gw := gw_t4 (List.mem_of_getElem? (i := 86) (by decide +kernel)) (by decide +kernel)
theorem kw_4_87 : Cond.selects RX9 yX9_cell yX9_cell ∈ gw := gw_t4 (List.mem_of_getElem? (i := 87) (by decide +kernel)) (by decide +kernel)
theorem kw_1_1 : Cond.initialized RX9 ∈ gw := gw_t1 (List.mem_of_getElem? (i := 1) (by decide +kernel)) (by decide +kernel)
theorem kw_4_88 : Cond.code yX9_cell cX9_cell 6 (some .int) ∈ gw := gw_t4 (List.mem_of_getElem? (i := 88) (by decide +kernel)) (by decide +kernel)
theorem gk_L_7 : GoodIn gw (wsV RL 7 RX9 yX9_cell (.code yX9_cell cX9_cell 6 (some .int) :: gw)) ∧ (yX9_cell.cls = RX9 ∧ yX9_cell.cls ≠ "java/lang/invoke/MethodHandle" ∧ yX9_cell.cls ≠ "java/lang/invoke/VarHandle" ∧ (parseMethodDescriptor yX9_cell.desc).map (fun d => d.parameters.length) = some 3) := ⟨gi_V kw_4_85 kw_4_86 kw_4_87 kw_1_1 kw_4_88, by decide +kernel⟩
theorem dL_cell_7 : decode cL_cell 7 = .ok (.invokevirtual 7, 3) := by decide +kernel
theorem kw_4_83 : Cond.classLink RL 13 nIO ∈ gw := gw_t4 (List.mem_of_getElem? (i := 83) (by decide +kernel)) (by decide +kernel)
theorem kw_4_84 : Cond.classLink RL 15 nNS ∈ gw := gw_t4 (List.mem_of_getElem? (i := 84) (by decide +kernel)) (by decide +kernel)
theorem dL_cell_15 : decode cL_cell 15 = .ok (.astore 5, 2) := by decide +kernel
theorem dL_cell_17 : decode cL_cell 17 = .ok (.iconst 1, 1) := by decide +kernel
theorem dL_cell_18 : decode cL_cell 18 = .ok (.ireturn, 1) := by decide +kernel
theorem dL_cell_19 : decode cL_cell 19 = .ok (.astore 5, 2) := by decide +kernel
theorem dL_cell_21 : decode cL_cell 21 = .ok (.iconst 2, 1) := by decide +kernel
theorem dL_cell_22 : decode cL_cell 22 = .ok (.ireturn, 1) := by decide +kernel
theorem dL_cell_10 : decode cL_cell 10 = .ok (.i2l, 1) := by decide +kernel
theorem dL_cell_11 : decode cL_cell 11 = .ok (.lastore, 1) := by decide +kernel
theorem dL_cell_12 : decode cL_cell 12 = .ok (.goto 11, 3) := by decide +kernel
theorem dL_cell_23 : decode cL_cell 23 = .ok (.iconst 0, 1) := by decide +kernel
theorem dL_cell_24 : decode cL_cell 24 = .ok (.ireturn, 1) := by decide +kernel
set_option maxHeartbeats 4000000 in
set_option maxRecDepth 100000 in
theorem l_cell (l : Launch) (D : va_G) (e1 : Nat) (e2 : Nat) (e3 : Nat) (e4 : Nat) (h0 : Nat) (tp : Nat) (rd : Nat) (dr : Nat) (fa : Nat) (ly : Nat) (wy : Nat) (cu : Nat) (rv : Nat) (bt : Nat) (cu1 : Nat) (cu2 : Nat) (cu3 : Nat) (cu4 : Nat) (rv1 : Nat) (rv2 : Nat) (rv3 : Nat) (rv4 : Nat) (rv5 : Nat) (rv6 : Nat) (qo : Nat) (cc1 : ClassId) (rc1 : ClassId) (rc2 : ClassId) (rc3 : ClassId) (rc4 : ClassId) (rc5 : ClassId) (rc6 : ClassId) (yo : ClassId) (x : Int32) (y : Int32) (w : Int32) (fo : Nat → Int64) (hlt : l.stackTraces = false) : cI l yL_cell (.codeWith yL_cell cL_cell 6 (some .int) [(0, 12, 15, 13), (0, 12, 19, 15)]) ({ frames := 7, cells := 1, slots := 6, locals := 121 }) D [(cc1, .int), (rc1, .int), (rc2, .int), (rc3, .int), (rc4, .int), (rc5, .boolean), (rc6, .boolean), (yo, .long)] [(h0, .inr (8, [.ref tp, .ref rd, .ref dr, .ref fa, .ref ly, .ref wy])), (fa, .inr (3, [.ref cu, .ref rv, .ref bt, .int 0, .int 0, .int 0])), (cu, .inr (1, [.ref cu1, .ref cu2, .ref cu3, .ref cu4, .int 0, .int 0])), (cu1, .inl (cc1, 8, .inl uF)), (rv, .inr (5, [.int 5, .int 5, .ref rv1, .ref rv2, .ref rv3, .ref rv4, .ref rv5, .ref rv6])), (rv1, .inl (rc1, 100, .inl (fun _ => 0))), (rv2, .inl (rc2, 100, .inl (fun _ => 0))), (rv3, .inl (rc3, 100, .inl (fun _ => 0))), (rv4, .inl (rc4, 100, .inl (fun _ => (-1)))), (rv5, .inl (rc5, 100, .inl (fun _ => 0))), (rv6, .inl (rc6, 100, .inl (fun _ => 0))), (qo, .inl (yo, 1, .inr (.inl fo)))] (xE e1 e2 e3 e4) [.ref h0, .int x, .int y, .int w, .ref qo] (S := Nat → Int64) (fun r u => match u with | og => r = (if (x < 0 ∨ ¬ x < nI 5 ∨ y < 0 ∨ ¬ y < nI 5) then 1 else if w < 0 ∨ 5 < w then 2 else 0) ∧ (r = 0 → og 0 = ((if w = 5 then (-1) else 0) : Int32).toInt64)) (fun u => match u with | og => []) (fun u => match u with | og => [(qo, .inl (yo, 1, .inr (.inl og)))]) := by
  intro sz
  refine va_MetW (cc := cL_cell) (maxL := 6) (ret := (some .int)) (by decide) rfl ?_
  intro p e s m args below meth c s₁ B hml hv
  obtain ⟨rfl, hsz, hP, hK, hD0, hX⟩ := hv
  have hx := B.exec
  have hb := B.bytes
  have hr := B.returns
  have hts0 := atoms_spec (ws := .codeWith yL_cell cL_cell 6 (some .int) [(0, 12, 15, 13), (0, 12, 19, 15)] :: gw) B.pre
  have hts := fun (w : Cond) (h : w ∈ gw) => hts0 w (List.mem_cons_of_mem _ h)
  have hown : s.vm.findClass RL = some m.cls := findClass_of_methodNamed B.named
  have hlocks := B.notSynchronized
  have htab := vx_table (x := yL_cell) B (hts0 _ List.mem_cons_self)
  have F : mFix p s m _ c cL_cell 6 RL := ⟨hx, hb, hml, hown, hts⟩
  subst hsz
  have hD := hD0.self (sz := s.heap.size)
  generalize hAe : va_A [(h0, .inr (8, [.ref tp, .ref rd, .ref dr, .ref fa, .ref ly, .ref wy])), (fa, .inr (3, [.ref cu, .ref rv, .ref bt, .int 0, .int 0, .int 0])), (cu, .inr (1, [.ref cu1, .ref cu2, .ref cu3, .ref cu4, .int 0, .int 0])), (cu1, .inl (cc1, 8, .inl uF)), (rv, .inr (5, [.int 5, .int 5, .ref rv1, .ref rv2, .ref rv3, .ref rv4, .ref rv5, .ref rv6])), (rv1, .inl (rc1, 100, .inl (fun _ => 0))), (rv2, .inl (rc2, 100, .inl (fun _ => 0))), (rv3, .inl (rc3, 100, .inl (fun _ => 0))), (rv4, .inl (rc4, 100, .inl (fun _ => (-1)))), (rv5, .inl (rc5, 100, .inl (fun _ => 0))), (rv6, .inl (rc6, 100, .inl (fun _ => 0))), (qo, .inl (yo, 1, .inr (.inl fo)))] s.heap.size = A at hD hX ⊢
  have hA : ∀ q : Nat, s.heap.size ≤ q → A q := fun q h => by rw [← hAe]; exact Or.inr h
  have hS : va_S A s.heap s.heap [] := va_S.rf
  have hl := lv_entry ([.ref h0, .int x, .int y, .int w, .ref qo]) (n := 6) (Nat.le_of_ble_eq_true rfl)
  rw [lg_entry_eq]
  generalize (lg_sl ([.ref h0, .int x, .int y, .int w, .ref qo]) ++ List.replicate (6 - (lg_sl ([.ref h0, .int x, .int y, .int w, .ref qo])).length) Slot.unset).toArray = ls at hl ⊢
  have hl : lv_has ls 6 [(0, .ref h0), (1, .int x), (2, .int y), (3, .int w), (4, .ref qo)] := hl
  have hP : va_P D vwCl [(h0, .inr (8, [.ref tp, .ref rd, .ref dr, .ref fa, .ref ly, .ref wy])), (fa, .inr (3, [.ref cu, .ref rv, .ref bt, .int 0, .int 0, .int 0])), (cu, .inr (1, [.ref cu1, .ref cu2, .ref cu3, .ref cu4, .int 0, .int 0])), (cu1, .inl (cc1, 8, .inl uF)), (rv, .inr (5, [.int 5, .int 5, .ref rv1, .ref rv2, .ref rv3, .ref rv4, .ref rv5, .ref rv6])), (rv1, .inl (rc1, 100, .inl (fun _ => 0))), (rv2, .inl (rc2, 100, .inl (fun _ => 0))), (rv3, .inl (rc3, 100, .inl (fun _ => 0))), (rv4, .inl (rc4, 100, .inl (fun _ => (-1)))), (rv5, .inl (rc5, 100, .inl (fun _ => 0))), (rv6, .inl (rc6, 100, .inl (fun _ => 0))), (qo, .inl (yo, 1, .inr (.inl fo)))] s.heap := hP
  refine lv_aload hx hb dL_cell_0 (lv_at hl 4 rfl) ?_
  refine lv_iconst (v := 0) hx hb dL_cell_2 (by decide) ?_
  refine lv_aload_n hx hb dL_cell_3 rfl (lv_at hl 0 rfl) ?_
  refine lv_iload_n hx hb dL_cell_4 rfl (lv_at hl 1 rfl) ?_
  refine lv_iload_n hx hb dL_cell_5 rfl (lv_at hl 2 rfl) ?_
  refine lv_iload_n hx hb dL_cell_6 rfl (lv_at hl 3 rfl) ?_
  refine mc_Xi (rest := [.int 0, .ref qo]) (wr := [(qo, .inl (yo, 1, .inr (.inl fo)))]) F hK hP hD hS hA (c_cell l D e1 e2 e3 e4 h0 tp rd dr fa ly wy cu rv bt cu1 cu2 cu3 cu4 rv1 rv2 rv3 rv4 rv5 rv6 cc1 rc1 rc2 rc3 rc4 rc5 rc6 x y w hlt) ⟨gk_L_7.1, gk_L_7.2, Nat.le_of_ble_eq_true rfl, Nat.le_of_ble_eq_true rfl⟩ [0, 1, 2, 3, 4, 5, 6, 7, 8, 9, 10] [11] [0, 1, 2, 3, 4, 5, 6] ⟨rfl, rfl, rfl, rfl, by decide⟩ rfl (xE_move e1 e2 e3 e4) (xE_use hX hS (va_free hD hS hA [0, 1, 2, 3, 4, 5, 6, 7, 8, 9, 10] rfl)) 0 rfl rfl rfl hl.1 rfl (Nat.le_of_ble_eq_true rfl) dL_cell_7 ⟨Nat.le_of_ble_eq_true rfl, Nat.le_of_ble_eq_true rfl⟩ (fun E9 ce9 q9 H locs hpx hP hD hS hc9 hv9 hcl9 => ?_) (fun r_1 _ H locs hw hK1 hP hD hS => ?_)
  · skip
    have hP : va_P D vwCl [(qo, .inl (yo, 1, .inr (.inl fo)))] H := hP
    have hD : va_D A [(qo, .inl (yo, 1, .inr (.inl fo)))] := hD
    have hpx : (E9 = nIO ∧ (x < 0 ∨ ¬ x < nI 5 ∨ y < 0 ∨ ¬ y < nI 5)) ∨ (E9 = nNS ∧ ¬ (x < 0 ∨ ¬ x < nI 5 ∨ y < 0 ∨ ¬ y < nI 5) ∧ (w < 0 ∨ 5 < w)) := hpx
    rcases hpx with ⟨rfl, ho9⟩ | ⟨rfl, ho9, ho8⟩
    · skip
      refine vx_catch (name := nIO) hown [] ⟨0, 12, 15, 13⟩ [⟨0, 12, 19, 15⟩] (htab.trans rfl) (fun z hz => nomatch hz) (by decide) (by decide) (hts _ kw_4_83) (va_Nw.use rfl hX.2.2.2.2.1) hc9 hv9 hcl9 ?_
      refine lv_astore (lv' := [(5, .ref q9), (0, .ref h0), (1, .int x), (2, .int y), (3, .int w), (4, .ref qo)]) hx hb dL_cell_15 hl (by decide) rfl (fun ls hl => ?_)
      refine lv_iconst (v := 1) hx hb dL_cell_17 (by decide) ?_
      have hP9 := hP.sub (ws' := [(qo, .inl (yo, 1, .inr (.inl fo)))]) [0] rfl
      have hD9 := hD.sub (ws' := [(qo, .inl (yo, 1, .inr (.inl fo)))]) [0] (by decide) rfl
      have hK9 := hK.sub (tys' := []) [] rfl
      refine W.widen (k := 1) (n := 6) (by decide) (by decide) ?_
      exact W.iret (v := 1) hx hb hr (fun t ht hW => ⟨⟨1, fo, rfl, ⟨by rw [if_pos ho9], fun h => absurd h (by decide)⟩, by rw [ht]; exact hP9, va_K.moved hW.alike hK9, hD9⟩, hS.F ht⟩) hS.2.2 dL_cell_18
    · skip
      refine vx_catch (name := nNS) hown [⟨0, 12, 15, 13⟩] ⟨0, 12, 19, 15⟩ [] (htab.trans rfl) (fun z hz => by rcases List.mem_singleton.mp hz with rfl; exact Or.inr ⟨by decide, nIO, hts _ kw_4_83, hX.2.2.2.2.2.2⟩) (by decide) (by decide) (hts _ kw_4_84) (va_Nw.use rfl hX.2.2.2.2.2.1) hc9 hv9 hcl9 ?_
      refine lv_astore (lv' := [(5, .ref q9), (0, .ref h0), (1, .int x), (2, .int y), (3, .int w), (4, .ref qo)]) hx hb dL_cell_19 hl (by decide) rfl (fun ls hl => ?_)
      refine lv_iconst (v := 2) hx hb dL_cell_21 (by decide) ?_
      have hP9 := hP.sub (ws' := [(qo, .inl (yo, 1, .inr (.inl fo)))]) [0] rfl
      have hD9 := hD.sub (ws' := [(qo, .inl (yo, 1, .inr (.inl fo)))]) [0] (by decide) rfl
      have hK9 := hK.sub (tys' := []) [] rfl
      refine W.widen (k := 1) (n := 6) (by decide) (by decide) ?_
      exact W.iret (v := 2) hx hb hr (fun t ht hW => ⟨⟨2, fo, rfl, ⟨by rw [if_neg ho9, if_pos ho8], fun h => absurd h (by decide)⟩, by rw [ht]; exact hP9, va_K.moved hW.alike hK9, hD9⟩, hS.F ht⟩) hS.2.2 dL_cell_22
  · skip
    have hP : va_P D vwCl [(qo, .inl (yo, 1, .inr (.inl fo)))] H := hP
    have hD : va_D A [(qo, .inl (yo, 1, .inr (.inl fo)))] := hD
    refine W.widen (k := 1) (n := 6) (by decide) (by decide) ?_
    have hw_2 : (¬ (x < 0 ∨ ¬ x < nI 5 ∨ y < 0 ∨ ¬ y < nI 5)) ∧ ¬ (w < 0 ∨ 5 < w) ∧ r_1 = (if w = 5 then (-1) else 0) := hw
    refine lv_i2l (v := r_1.toInt64) hx hb dL_cell_10 rfl ?_
    refine va_last hx hb hK hP hD hS 0 7 rfl rfl (by unfold vp_in; decide) dL_cell_11 (fun H locs hP hD hS => ?_)
    have hP : va_P D vwCl [(qo, .inl (yo, 1, .inr (.inl (vp_updL fo 0 r_1.toInt64))))] H := hP
    have hD : va_D A [(qo, .inl (yo, 1, .inr (.inl (vp_updL fo 0 r_1.toInt64))))] := hD
    refine lv_goto (tgt := 23) hx hb dL_cell_12 (by decide) ?_
    refine lv_iconst (v := 0) hx hb dL_cell_23 (by decide) ?_
    have hP9 := hP.sub (ws' := [(qo, .inl (yo, 1, .inr (.inl ((vp_updL fo 0 r_1.toInt64)))))]) [0] rfl
    have hD9 := hD.sub (ws' := [(qo, .inl (yo, 1, .inr (.inl ((vp_updL fo 0 r_1.toInt64)))))]) [0] (by decide) rfl
    have hK9 := hK.sub (tys' := []) [] rfl
    refine W.widen (k := 1) (n := 6) (by decide) (by decide) ?_
    exact W.iret (v := 0) hx hb hr (fun t ht hW => ⟨⟨0, (vp_updL fo 0 r_1.toInt64), rfl, ⟨by rw [if_neg hw_2.1, if_neg hw_2.2.1], fun _ => by rw [← hw_2.2.2]; rfl⟩, by rw [ht]; exact hP9, va_K.moved hW.alike hK9, hD9⟩, hS.F ht⟩) hS.2.2 dL_cell_24
theorem dL_look_0 : decode cL_look 0 = .ok (.aload_n 3, 1) := by decide +kernel
theorem dL_look_1 : decode cL_look 1 = .ok (.iconst 0, 1) := by decide +kernel
theorem dL_look_2 : decode cL_look 2 = .ok (.aload_n 0, 1) := by decide +kernel
theorem dL_look_3 : decode cL_look 3 = .ok (.iload_n 1, 1) := by decide +kernel
theorem dL_look_4 : decode cL_look 4 = .ok (.iload_n 2, 1) := by decide +kernel
theorem kw_4_178 : Cond.methodLink RL 17 yX9_look ∈ gw := gw_t4 (List.mem_of_getElem? (i := 178) (by decide +kernel)) (by decide +kernel)
theorem kw_4_179 : Cond.instanceMethod yX9_look ∈ gw := gw_t4 (List.mem_of_getElem? (i := 179) (by decide +kernel)) (by decide +kernel)
theorem kw_4_180 : Cond.selects RX9 yX9_look yX9_look ∈ gw := gw_t4 (List.mem_of_getElem? (i := 180) (by decide +kernel)) (by decide +kernel)
theorem kw_4_181 : Cond.code yX9_look cX9_look 4 (some .int) ∈ gw := gw_t4 (List.mem_of_getElem? (i := 181) (by decide +kernel)) (by decide +kernel)
theorem gk_L_17 : GoodIn gw (wsV RL 17 RX9 yX9_look (.code yX9_look cX9_look 4 (some .int) :: gw)) ∧ (yX9_look.cls = RX9 ∧ yX9_look.cls ≠ "java/lang/invoke/MethodHandle" ∧ yX9_look.cls ≠ "java/lang/invoke/VarHandle" ∧ (parseMethodDescriptor yX9_look.desc).map (fun d => d.parameters.length) = some 2) := ⟨gi_V kw_4_178 kw_4_179 kw_4_180 kw_1_1 kw_4_181, by decide +kernel⟩
theorem dL_look_5 : decode cL_look 5 = .ok (.invokevirtual 17, 3) := by decide +kernel
theorem dL_look_13 : decode cL_look 13 = .ok (.astore 4, 2) := by decide +kernel
theorem dL_look_15 : decode cL_look 15 = .ok (.iconst 1, 1) := by decide +kernel
theorem dL_look_16 : decode cL_look 16 = .ok (.ireturn, 1) := by decide +kernel
set_option maxHeartbeats 4000000 in
set_option maxRecDepth 100000 in
theorem l_look (l : Launch) (D : va_G) (e1 : Nat) (e2 : Nat) (e3 : Nat) (e4 : Nat) (h0 : Nat) (tp : Nat) (rd : Nat) (dr : Nat) (fa : Nat) (ly : Nat) (wy : Nat) (cu : Nat) (rv : Nat) (bt : Nat) (qo : Nat) (yo : ClassId) (x1 : Int32) (x2 : Int32) (fo : Nat → Int64) (hlt : l.stackTraces = false) : cI l yL_look (.codeWith yL_look cL_look 5 (some .int) [(0, 10, 13, 13), (0, 10, 17, 15)]) ({ frames := 7, cells := 1, slots := 6, locals := 152 }) D [(yo, .long)] [(h0, .inr (8, [.ref tp, .ref rd, .ref dr, .ref fa, .ref ly, .ref wy])), (fa, .inr (3, [.ref cu, .ref rv, .ref bt, .int 0, .int 0, .int 0])), (qo, .inl (yo, 1, .inr (.inl fo)))] (xE e1 e2 e3 e4) [.ref h0, .int x1, .int x2, .ref qo] (S := Nat → Int64) (fun r u => match u with | og => r = 1) (fun u => match u with | og => []) (fun u => match u with | og => [(qo, .inl (yo, 1, .inr (.inl og)))]) := by
  intro sz
  refine va_MetW (cc := cL_look) (maxL := 5) (ret := (some .int)) (by decide) rfl ?_
  intro p e s m args below meth c s₁ B hml hv
  obtain ⟨rfl, hsz, hP, hK, hD0, hX⟩ := hv
  have hx := B.exec
  have hb := B.bytes
  have hr := B.returns
  have hts0 := atoms_spec (ws := .codeWith yL_look cL_look 5 (some .int) [(0, 10, 13, 13), (0, 10, 17, 15)] :: gw) B.pre
  have hts := fun (w : Cond) (h : w ∈ gw) => hts0 w (List.mem_cons_of_mem _ h)
  have hown : s.vm.findClass RL = some m.cls := findClass_of_methodNamed B.named
  have hlocks := B.notSynchronized
  have htab := vx_table (x := yL_look) B (hts0 _ List.mem_cons_self)
  have F : mFix p s m _ c cL_look 5 RL := ⟨hx, hb, hml, hown, hts⟩
  subst hsz
  have hD := hD0.self (sz := s.heap.size)
  generalize hAe : va_A [(h0, .inr (8, [.ref tp, .ref rd, .ref dr, .ref fa, .ref ly, .ref wy])), (fa, .inr (3, [.ref cu, .ref rv, .ref bt, .int 0, .int 0, .int 0])), (qo, .inl (yo, 1, .inr (.inl fo)))] s.heap.size = A at hD hX ⊢
  have hA : ∀ q : Nat, s.heap.size ≤ q → A q := fun q h => by rw [← hAe]; exact Or.inr h
  have hS : va_S A s.heap s.heap [] := va_S.rf
  have hl := lv_entry ([.ref h0, .int x1, .int x2, .ref qo]) (n := 5) (Nat.le_of_ble_eq_true rfl)
  rw [lg_entry_eq]
  generalize (lg_sl ([.ref h0, .int x1, .int x2, .ref qo]) ++ List.replicate (5 - (lg_sl ([.ref h0, .int x1, .int x2, .ref qo])).length) Slot.unset).toArray = ls at hl ⊢
  have hl : lv_has ls 5 [(0, .ref h0), (1, .int x1), (2, .int x2), (3, .ref qo)] := hl
  have hP : va_P D vwCl [(h0, .inr (8, [.ref tp, .ref rd, .ref dr, .ref fa, .ref ly, .ref wy])), (fa, .inr (3, [.ref cu, .ref rv, .ref bt, .int 0, .int 0, .int 0])), (qo, .inl (yo, 1, .inr (.inl fo)))] s.heap := hP
  refine lv_aload_n hx hb dL_look_0 rfl (lv_at hl 3 rfl) ?_
  refine lv_iconst (v := 0) hx hb dL_look_1 (by decide) ?_
  refine lv_aload_n hx hb dL_look_2 rfl (lv_at hl 0 rfl) ?_
  refine lv_iload_n hx hb dL_look_3 rfl (lv_at hl 1 rfl) ?_
  refine lv_iload_n hx hb dL_look_4 rfl (lv_at hl 2 rfl) ?_
  refine mc_Xi (rest := [.int 0, .ref qo]) (wr := [(qo, .inl (yo, 1, .inr (.inl fo)))]) F hK hP hD hS hA (c_look l D e1 e2 e3 e4 h0 tp rd dr fa ly wy cu rv bt x1 x2 hlt) ⟨gk_L_17.1, gk_L_17.2, Nat.le_of_ble_eq_true rfl, Nat.le_of_ble_eq_true rfl⟩ [0, 1] [2] [] ⟨rfl, rfl, rfl, rfl, by decide⟩ rfl (xE_move e1 e2 e3 e4) (xE_use hX hS (va_free hD hS hA [0, 1] rfl)) 0 rfl rfl rfl hl.1 rfl (Nat.le_of_ble_eq_true rfl) dL_look_5 ⟨Nat.le_of_ble_eq_true rfl, Nat.le_of_ble_eq_true rfl⟩ (fun E9 ce9 q9 H locs hpx hP hD hS hc9 hv9 hcl9 => ?_) (fun r_1 _ H locs hw hK1 hP hD hS => ?_)
  · skip
    have hP : va_P D vwCl [(qo, .inl (yo, 1, .inr (.inl fo)))] H := hP
    have hD : va_D A [(qo, .inl (yo, 1, .inr (.inl fo)))] := hD
    have hpx : E9 = nIO := hpx
    obtain rfl : E9 = nIO := hpx
    refine vx_catch (name := nIO) hown [] ⟨0, 10, 13, 13⟩ [⟨0, 10, 17, 15⟩] (htab.trans rfl) (fun z hz => nomatch hz) (by decide) (by decide) (hts _ kw_4_83) (va_Nw.use rfl hX.2.2.2.2.1) hc9 hv9 hcl9 ?_
    refine lv_astore (lv' := [(4, .ref q9), (0, .ref h0), (1, .int x1), (2, .int x2), (3, .ref qo)]) hx hb dL_look_13 hl (by decide) rfl (fun ls hl => ?_)
    refine lv_iconst (v := 1) hx hb dL_look_15 (by decide) ?_
    have hP9 := hP.sub (ws' := [(qo, .inl (yo, 1, .inr (.inl fo)))]) [0] rfl
    have hD9 := hD.sub (ws' := [(qo, .inl (yo, 1, .inr (.inl fo)))]) [0] (by decide) rfl
    have hK9 := hK.sub (tys' := []) [] rfl
    refine W.widen (k := 1) (n := 6) (by decide) (by decide) ?_
    exact W.iret (v := 1) hx hb hr (fun t ht hW => ⟨⟨1, fo, rfl, rfl, by rw [ht]; exact hP9, va_K.moved hW.alike hK9, hD9⟩, hS.F ht⟩) hS.2.2 dL_look_16
  · skip
    have hP : va_P D vwCl [(qo, .inl (yo, 1, .inr (.inl fo)))] H := hP
    have hD : va_D A [(qo, .inl (yo, 1, .inr (.inl fo)))] := hD
    refine W.widen (k := 1) (n := 6) (by decide) (by decide) ?_
    have hw_2 : False := hw
    exact hw_2.elim
