theorem dX3_renew_0 : decode cX3_renew 0 = .ok (.aload_n 0, 1) := by decide +kernel
theorem dX3_renew_1 : decode cX3_renew 1 = .ok (.getfield 21, 3) := by decide +kernel
theorem dX3_renew_4 : decode cX3_renew 4 = .ok (.iload_n 1, 1) := by decide +kernel
theorem dX3_renew_5 : decode cX3_renew 5 = .ok (.iload_n 2, 1) := by decide +kernel
theorem kw_3_1 : Cond.methodLink RX3 32 yX6_renew ∈ gw := gw_t3 (List.mem_of_getElem? (i := 1) (by decide +kernel)) (by decide +kernel)
theorem gk_X3_32 : GoodIn gw (wsV RX3 32 RX6 yX6_renew (.code yX6_renew cX6_renew 4 none :: gw)) ∧ (yX6_renew.cls = RX6 ∧ yX6_renew.cls ≠ "java/lang/invoke/MethodHandle" ∧ yX6_renew.cls ≠ "java/lang/invoke/VarHandle" ∧ (parseMethodDescriptor yX6_renew.desc).map (fun d => d.parameters.length) = some 2) := ⟨gi_V kw_3_1 kw_1_139 kw_1_140 kw_1_7 kw_1_141, by decide +kernel⟩
theorem dX3_renew_6 : decode cX3_renew 6 = .ok (.invokevirtual 32, 3) := by decide +kernel
theorem dX3_renew_9 : decode cX3_renew 9 = .ok (.aload_n 0, 1) := by decide +kernel
theorem dX3_renew_10 : decode cX3_renew 10 = .ok (.iconst 0, 1) := by decide +kernel
theorem kw_1_226 : Cond.fieldLink RX3 36 "IceFair$Fair" "boothCount" "I" ∈ gw := gw_t1 (List.mem_of_getElem? (i := 226) (by decide +kernel)) (by decide +kernel)
theorem dX3_renew_11 : decode cX3_renew 11 = .ok (.putfield 36, 3) := by decide +kernel
theorem dX3_renew_14 : decode cX3_renew 14 = .ok (.aload_n 0, 1) := by decide +kernel
theorem dX3_renew_15 : decode cX3_renew 15 = .ok (.iconst 0, 1) := by decide +kernel
theorem kw_1_230 : Cond.fieldLink RX3 40 "IceFair$Fair" "hours" "I" ∈ gw := gw_t1 (List.mem_of_getElem? (i := 230) (by decide +kernel)) (by decide +kernel)
theorem dX3_renew_16 : decode cX3_renew 16 = .ok (.putfield 40, 3) := by decide +kernel
theorem dX3_renew_19 : decode cX3_renew 19 = .ok (.aload_n 0, 1) := by decide +kernel
theorem dX3_renew_20 : decode cX3_renew 20 = .ok (.iconst 0, 1) := by decide +kernel
theorem kw_1_232 : Cond.fieldLink RX3 43 "IceFair$Fair" "fees" "I" ∈ gw := gw_t1 (List.mem_of_getElem? (i := 232) (by decide +kernel)) (by decide +kernel)
theorem dX3_renew_21 : decode cX3_renew 21 = .ok (.putfield 43, 3) := by decide +kernel
theorem dX3_renew_24 : decode cX3_renew 24 = .ok (.return_, 1) := by decide +kernel
set_option maxHeartbeats 4000000 in
set_option maxRecDepth 100000 in
theorem c_Fair_renew (l : Launch) (D : va_G) (h0 : Nat) (cu : Nat) (rv : Nat) (bt : Nat) (q1 : Nat) (q2 : Nat) (q3 : Nat) (q4 : Nat) (q5 : Nat) (q6 : Nat) (cy1 : ClassId) (cy2 : ClassId) (cy3 : ClassId) (cy4 : ClassId) (cy5 : ClassId) (cy6 : ClassId) (f1 : Nat → Int32) (f2 : Nat → Int32) (f3 : Nat → Int32) (f4 : Nat → Int32) (f5 : Nat → Int32) (f6 : Nat → Int32) (bc0 : Int32) (ho0 : Int32) (fe0 : Int32) (w0 : Int32) (h9 : Int32) (w1 : Int32) (h1 : Int32) : cV l yX3_renew (.code yX3_renew cX3_renew 3 none) ({ frames := 1, cells := 0, slots := 0, locals := 23 }) D [(cy1, .int), (cy2, .int), (cy3, .int), (cy4, .int), (cy5, .boolean), (cy6, .boolean)] [(h0, .inr (3, [.ref cu, .ref rv, .ref bt, .int bc0, .int ho0, .int fe0])), (rv, .inr (5, [.int w0, .int h9, .ref q1, .ref q2, .ref q3, .ref q4, .ref q5, .ref q6])), (q1, .inl (cy1, 100, .inl f1)), (q2, .inl (cy2, 100, .inl f2)), (q3, .inl (cy3, 100, .inl f3)), (q4, .inl (cy4, 100, .inl f4)), (q5, .inl (cy5, 100, .inl f5)), (q6, .inl (cy6, 100, .inl f6))] xT [.ref h0, .int w1, .int h1] (S := Unit) (fun _ => True) (fun _ => []) (fun _ => [(h0, .inr (3, [.ref cu, .ref rv, .ref bt, .int 0, .int 0, .int 0])), (rv, .inr (5, [.int w1, .int h1, .ref q1, .ref q2, .ref q3, .ref q4, .ref q5, .ref q6])), (q1, .inl (cy1, 100, .inl (fun _ => 0))), (q2, .inl (cy2, 100, .inl (fun _ => 0))), (q3, .inl (cy3, 100, .inl (fun _ => 0))), (q4, .inl (cy4, 100, .inl (fun _ => (-1)))), (q5, .inl (cy5, 100, .inl (fun _ => 0))), (q6, .inl (cy6, 100, .inl f6))]) := by
  intro sz
  refine Met.ofW (cc := cX3_renew) (maxL := 3) (ret := none) (by decide) rfl ?_
  intro p e s m args below meth c s₁ B hml hv
  obtain ⟨rfl, hsz, hP, hK, hD0, hX⟩ := hv
  have hx := B.exec
  have hb := B.bytes
  have hr := B.returns
  have hts0 := atoms_spec (ws := .code yX3_renew cX3_renew 3 none :: gw) B.pre
  have hts := fun (w : Cond) (h : w ∈ gw) => hts0 w (List.mem_cons_of_mem _ h)
  have hown : s.vm.findClass RX3 = some m.cls := findClass_of_methodNamed B.named
  have hlocks := B.notSynchronized
  have F : mFix p s m _ c cX3_renew 3 RX3 := ⟨hx, hb, hml, hown, hts⟩
  subst hsz
  have hD := hD0.self (sz := s.heap.size)
  generalize hAe : va_A [(h0, .inr (3, [.ref cu, .ref rv, .ref bt, .int bc0, .int ho0, .int fe0])), (rv, .inr (5, [.int w0, .int h9, .ref q1, .ref q2, .ref q3, .ref q4, .ref q5, .ref q6])), (q1, .inl (cy1, 100, .inl f1)), (q2, .inl (cy2, 100, .inl f2)), (q3, .inl (cy3, 100, .inl f3)), (q4, .inl (cy4, 100, .inl f4)), (q5, .inl (cy5, 100, .inl f5)), (q6, .inl (cy6, 100, .inl f6))] s.heap.size = A at hD hX ⊢
  have hA : ∀ q : Nat, s.heap.size ≤ q → A q := fun q h => by rw [← hAe]; exact Or.inr h
  have hS : va_S A s.heap s.heap [] := va_S.rf
  have hl := lv_entry ([.ref h0, .int w1, .int h1]) (n := 3) (Nat.le_of_ble_eq_true rfl)
  rw [lg_entry_eq]
  generalize (lg_sl ([.ref h0, .int w1, .int h1]) ++ List.replicate (3 - (lg_sl ([.ref h0, .int w1, .int h1])).length) Slot.unset).toArray = ls at hl ⊢
  have hl : lv_has ls 3 [(0, .ref h0), (1, .int w1), (2, .int h1)] := hl
  have hP : va_P D vwCl [(h0, .inr (3, [.ref cu, .ref rv, .ref bt, .int bc0, .int ho0, .int fe0])), (rv, .inr (5, [.int w0, .int h9, .ref q1, .ref q2, .ref q3, .ref q4, .ref q5, .ref q6])), (q1, .inl (cy1, 100, .inl f1)), (q2, .inl (cy2, 100, .inl f2)), (q3, .inl (cy3, 100, .inl f3)), (q4, .inl (cy4, 100, .inl f4)), (q5, .inl (cy5, 100, .inl f5)), (q6, .inl (cy6, 100, .inl f6))] s.heap := hP
  refine lv_aload_n hx hb dX3_renew_0 rfl (lv_at hl 0 rfl) ?_
  refine va_get (D := D) (ci := 3) (v := .ref rv) (C := RX3) (T := TX3) (N := 6) hx hb hts inG_X3 hown hK hP 0 rfl rfl 1 (by decide) (hts _ kw_1_219) (fun _ h9 => h9) rfl dX3_renew_1 ?_
  refine lv_iload_n hx hb dX3_renew_4 rfl (lv_at hl 1 rfl) ?_
  refine lv_iload_n hx hb dX3_renew_5 rfl (lv_at hl 2 rfl) ?_
  refine mc_Vv (rest := []) (wr := [(h0, .inr (3, [.ref cu, .ref rv, .ref bt, .int bc0, .int ho0, .int fe0]))]) F hK hP hD hS hA (c_River_renew l D rv q1 q2 q3 q4 q5 q6 cy1 cy2 cy3 cy4 cy5 cy6 f1 f2 f3 f4 f5 f6 w0 h9 w1 h1 ) ⟨gk_X3_32.1, gk_X3_32.2, Nat.le_of_ble_eq_true rfl, Nat.le_of_ble_eq_true rfl⟩ [1, 2, 3, 4, 5, 6, 7] [0] [0, 1, 2, 3, 4, 5] ⟨rfl, rfl, rfl, rfl, by decide⟩ rfl xT_move (fun _ _ _ => trivial) 1 rfl rfl rfl hl.1 rfl (Nat.le_of_ble_eq_true rfl) dX3_renew_6 ⟨Nat.le_of_ble_eq_true rfl, Nat.le_of_ble_eq_true rfl⟩ (fun _ H locs hw hK1 hP hD hS => ?_)
  have hP : va_P D vwCl [(h0, .inr (3, [.ref cu, .ref rv, .ref bt, .int bc0, .int ho0, .int fe0])), (rv, .inr (5, [.int w1, .int h1, .ref q1, .ref q2, .ref q3, .ref q4, .ref q5, .ref q6])), (q1, .inl (cy1, 100, .inl (fun _ => 0))), (q2, .inl (cy2, 100, .inl (fun _ => 0))), (q3, .inl (cy3, 100, .inl (fun _ => 0))), (q4, .inl (cy4, 100, .inl (fun _ => (-1)))), (q5, .inl (cy5, 100, .inl (fun _ => 0))), (q6, .inl (cy6, 100, .inl f6))] H := hP
  have hD : va_D A [(h0, .inr (3, [.ref cu, .ref rv, .ref bt, .int bc0, .int ho0, .int fe0])), (rv, .inr (5, [.int w1, .int h1, .ref q1, .ref q2, .ref q3, .ref q4, .ref q5, .ref q6])), (q1, .inl (cy1, 100, .inl (fun _ => 0))), (q2, .inl (cy2, 100, .inl (fun _ => 0))), (q3, .inl (cy3, 100, .inl (fun _ => 0))), (q4, .inl (cy4, 100, .inl (fun _ => (-1)))), (q5, .inl (cy5, 100, .inl (fun _ => 0))), (q6, .inl (cy6, 100, .inl f6))] := hD
  refine lv_aload_n hx hb dX3_renew_9 rfl (lv_at hl 0 rfl) ?_
  refine lv_iconst (v := 0) hx hb dX3_renew_10 (by decide) ?_
  refine va_put (D := D) (ci := 3) (v := .int 0) (ty := .int) (C := RX3) (T := TX3) (N := 6) hx hb hts inG_X3 tyX3 tyX3_ok nmX3 hown hK hP hD hS 0 rfl rfl 3 (by decide) (hts _ kw_1_226) (fun _ h9 => h9) rfl (by decide +kernel) rfl rfl (Nat.le_of_ble_eq_true rfl) dX3_renew_11 (fun H locs hP hD hS => ?_)
  have hP : va_P D vwCl [(h0, .inr (3, [.ref cu, .ref rv, .ref bt, .int 0, .int ho0, .int fe0])), (rv, .inr (5, [.int w1, .int h1, .ref q1, .ref q2, .ref q3, .ref q4, .ref q5, .ref q6])), (q1, .inl (cy1, 100, .inl (fun _ => 0))), (q2, .inl (cy2, 100, .inl (fun _ => 0))), (q3, .inl (cy3, 100, .inl (fun _ => 0))), (q4, .inl (cy4, 100, .inl (fun _ => (-1)))), (q5, .inl (cy5, 100, .inl (fun _ => 0))), (q6, .inl (cy6, 100, .inl f6))] H := hP
  have hD : va_D A [(h0, .inr (3, [.ref cu, .ref rv, .ref bt, .int 0, .int ho0, .int fe0])), (rv, .inr (5, [.int w1, .int h1, .ref q1, .ref q2, .ref q3, .ref q4, .ref q5, .ref q6])), (q1, .inl (cy1, 100, .inl (fun _ => 0))), (q2, .inl (cy2, 100, .inl (fun _ => 0))), (q3, .inl (cy3, 100, .inl (fun _ => 0))), (q4, .inl (cy4, 100, .inl (fun _ => (-1)))), (q5, .inl (cy5, 100, .inl (fun _ => 0))), (q6, .inl (cy6, 100, .inl f6))] := hD
  refine lv_aload_n hx hb dX3_renew_14 rfl (lv_at hl 0 rfl) ?_
  refine lv_iconst (v := 0) hx hb dX3_renew_15 (by decide) ?_
  refine va_put (D := D) (ci := 3) (v := .int 0) (ty := .int) (C := RX3) (T := TX3) (N := 6) hx hb hts inG_X3 tyX3 tyX3_ok nmX3 hown hK hP hD hS 0 rfl rfl 4 (by decide) (hts _ kw_1_230) (fun _ h9 => h9) rfl (by decide +kernel) rfl rfl (Nat.le_of_ble_eq_true rfl) dX3_renew_16 (fun H locs hP hD hS => ?_)
  have hP : va_P D vwCl [(h0, .inr (3, [.ref cu, .ref rv, .ref bt, .int 0, .int 0, .int fe0])), (rv, .inr (5, [.int w1, .int h1, .ref q1, .ref q2, .ref q3, .ref q4, .ref q5, .ref q6])), (q1, .inl (cy1, 100, .inl (fun _ => 0))), (q2, .inl (cy2, 100, .inl (fun _ => 0))), (q3, .inl (cy3, 100, .inl (fun _ => 0))), (q4, .inl (cy4, 100, .inl (fun _ => (-1)))), (q5, .inl (cy5, 100, .inl (fun _ => 0))), (q6, .inl (cy6, 100, .inl f6))] H := hP
  have hD : va_D A [(h0, .inr (3, [.ref cu, .ref rv, .ref bt, .int 0, .int 0, .int fe0])), (rv, .inr (5, [.int w1, .int h1, .ref q1, .ref q2, .ref q3, .ref q4, .ref q5, .ref q6])), (q1, .inl (cy1, 100, .inl (fun _ => 0))), (q2, .inl (cy2, 100, .inl (fun _ => 0))), (q3, .inl (cy3, 100, .inl (fun _ => 0))), (q4, .inl (cy4, 100, .inl (fun _ => (-1)))), (q5, .inl (cy5, 100, .inl (fun _ => 0))), (q6, .inl (cy6, 100, .inl f6))] := hD
  refine lv_aload_n hx hb dX3_renew_19 rfl (lv_at hl 0 rfl) ?_
  refine lv_iconst (v := 0) hx hb dX3_renew_20 (by decide) ?_
  refine va_put (D := D) (ci := 3) (v := .int 0) (ty := .int) (C := RX3) (T := TX3) (N := 6) hx hb hts inG_X3 tyX3 tyX3_ok nmX3 hown hK hP hD hS 0 rfl rfl 5 (by decide) (hts _ kw_1_232) (fun _ h9 => h9) rfl (by decide +kernel) rfl rfl (Nat.le_of_ble_eq_true rfl) dX3_renew_21 (fun H locs hP hD hS => ?_)
  have hP : va_P D vwCl [(h0, .inr (3, [.ref cu, .ref rv, .ref bt, .int 0, .int 0, .int 0])), (rv, .inr (5, [.int w1, .int h1, .ref q1, .ref q2, .ref q3, .ref q4, .ref q5, .ref q6])), (q1, .inl (cy1, 100, .inl (fun _ => 0))), (q2, .inl (cy2, 100, .inl (fun _ => 0))), (q3, .inl (cy3, 100, .inl (fun _ => 0))), (q4, .inl (cy4, 100, .inl (fun _ => (-1)))), (q5, .inl (cy5, 100, .inl (fun _ => 0))), (q6, .inl (cy6, 100, .inl f6))] H := hP
  have hD : va_D A [(h0, .inr (3, [.ref cu, .ref rv, .ref bt, .int 0, .int 0, .int 0])), (rv, .inr (5, [.int w1, .int h1, .ref q1, .ref q2, .ref q3, .ref q4, .ref q5, .ref q6])), (q1, .inl (cy1, 100, .inl (fun _ => 0))), (q2, .inl (cy2, 100, .inl (fun _ => 0))), (q3, .inl (cy3, 100, .inl (fun _ => 0))), (q4, .inl (cy4, 100, .inl (fun _ => (-1)))), (q5, .inl (cy5, 100, .inl (fun _ => 0))), (q6, .inl (cy6, 100, .inl f6))] := hD
  have hP9 := hP.sub (ws' := [(h0, .inr (3, [.ref cu, .ref rv, .ref bt, .int 0, .int 0, .int 0])), (rv, .inr (5, [.int w1, .int h1, .ref q1, .ref q2, .ref q3, .ref q4, .ref q5, .ref q6])), (q1, .inl (cy1, 100, .inl (fun _ => 0))), (q2, .inl (cy2, 100, .inl (fun _ => 0))), (q3, .inl (cy3, 100, .inl (fun _ => 0))), (q4, .inl (cy4, 100, .inl (fun _ => (-1)))), (q5, .inl (cy5, 100, .inl (fun _ => 0))), (q6, .inl (cy6, 100, .inl f6))]) [0, 1, 2, 3, 4, 5, 6, 7] rfl
  have hD9 := hD.sub (ws' := [(h0, .inr (3, [.ref cu, .ref rv, .ref bt, .int 0, .int 0, .int 0])), (rv, .inr (5, [.int w1, .int h1, .ref q1, .ref q2, .ref q3, .ref q4, .ref q5, .ref q6])), (q1, .inl (cy1, 100, .inl (fun _ => 0))), (q2, .inl (cy2, 100, .inl (fun _ => 0))), (q3, .inl (cy3, 100, .inl (fun _ => 0))), (q4, .inl (cy4, 100, .inl (fun _ => (-1)))), (q5, .inl (cy5, 100, .inl (fun _ => 0))), (q6, .inl (cy6, 100, .inl f6))]) [0, 1, 2, 3, 4, 5, 6, 7] (by decide) rfl
  have hK9 := hK.sub (tys' := []) [] rfl
  refine W.widen (k := 0) (n := 0) (by decide) (by decide) ?_
  exact W.vret hx hb hr (fun t ht hW => ⟨⟨(), rfl, trivial, by rw [ht]; exact hP9, va_K.moved hW.alike hK9, hD9⟩, hS.F ht⟩) hS.2.2 dX3_renew_24
theorem dX9_ice_0 : decode cX9_ice 0 = .ok (.iload_n 1, 1) := by decide +kernel
theorem dX9_ice_1 : decode cX9_ice 1 = .ok (.iconst 3, 1) := by decide +kernel
theorem dX9_ice_2 : decode cX9_ice 2 = .ok (.if_icmp .lt 20, 3) := by decide +kernel
theorem dX9_ice_22 : decode cX9_ice 22 = .ok (.iconst 0, 1) := by decide +kernel
theorem dX9_ice_23 : decode cX9_ice 23 = .ok (.ireturn, 1) := by decide +kernel
theorem dX9_ice_5 : decode cX9_ice 5 = .ok (.iload_n 1, 1) := by decide +kernel
theorem dX9_ice_6 : decode cX9_ice 6 = .ok (.bipush 10, 2) := by decide +kernel
theorem dX9_ice_8 : decode cX9_ice 8 = .ok (.if_icmp .gt 14, 3) := by decide +kernel
theorem dX9_ice_11 : decode cX9_ice 11 = .ok (.iload_n 2, 1) := by decide +kernel
theorem dX9_ice_12 : decode cX9_ice 12 = .ok (.iconst 3, 1) := by decide +kernel
theorem dX9_ice_13 : decode cX9_ice 13 = .ok (.if_icmp .lt 9, 3) := by decide +kernel
theorem dX9_ice_16 : decode cX9_ice 16 = .ok (.iload_n 2, 1) := by decide +kernel
theorem dX9_ice_17 : decode cX9_ice 17 = .ok (.bipush 10, 2) := by decide +kernel
theorem dX9_ice_19 : decode cX9_ice 19 = .ok (.if_icmp .le 5, 3) := by decide +kernel
theorem dX9_ice_24 : decode cX9_ice 24 = .ok (.aload_n 0, 1) := by decide +kernel
theorem dX9_ice_25 : decode cX9_ice 25 = .ok (.getfield 33, 3) := by decide +kernel
theorem dX9_ice_28 : decode cX9_ice 28 = .ok (.iload_n 1, 1) := by decide +kernel
theorem dX9_ice_29 : decode cX9_ice 29 = .ok (.iload_n 2, 1) := by decide +kernel
theorem kw_2_237 : Cond.methodLink RX9 80 yX3_renew ∈ gw := gw_t2 (List.mem_of_getElem? (i := 237) (by decide +kernel)) (by decide +kernel)
theorem kw_2_238 : Cond.instanceMethod yX3_renew ∈ gw := gw_t2 (List.mem_of_getElem? (i := 238) (by decide +kernel)) (by decide +kernel)
theorem kw_2_239 : Cond.selects RX3 yX3_renew yX3_renew ∈ gw := gw_t2 (List.mem_of_getElem? (i := 239) (by decide +kernel)) (by decide +kernel)
theorem kw_3_0 : Cond.code yX3_renew cX3_renew 3 none ∈ gw := gw_t3 (List.mem_of_getElem? (i := 0) (by decide +kernel)) (by decide +kernel)
theorem gk_X9_80 : GoodIn gw (wsV RX9 80 RX3 yX3_renew (.code yX3_renew cX3_renew 3 none :: gw)) ∧ (yX3_renew.cls = RX3 ∧ yX3_renew.cls ≠ "java/lang/invoke/MethodHandle" ∧ yX3_renew.cls ≠ "java/lang/invoke/VarHandle" ∧ (parseMethodDescriptor yX3_renew.desc).map (fun d => d.parameters.length) = some 2) := ⟨gi_V kw_2_237 kw_2_238 kw_2_239 kw_1_6 kw_3_0, by decide +kernel⟩
theorem dX9_ice_30 : decode cX9_ice 30 = .ok (.invokevirtual 80, 3) := by decide +kernel
theorem dX9_ice_33 : decode cX9_ice 33 = .ok (.iconst 1, 1) := by decide +kernel
theorem dX9_ice_34 : decode cX9_ice 34 = .ok (.ireturn, 1) := by decide +kernel
set_option maxHeartbeats 4000000 in
set_option maxRecDepth 100000 in
theorem c_ice (l : Launch) (D : va_G) (h0 : Nat) (tp : Nat) (rd : Nat) (dr : Nat) (fa : Nat) (ly : Nat) (wy : Nat) (cu : Nat) (rv : Nat) (bt : Nat) (rv1 : Nat) (rv2 : Nat) (rv3 : Nat) (rv4 : Nat) (rv5 : Nat) (rv6 : Nat) (rc1 : ClassId) (rc2 : ClassId) (rc3 : ClassId) (rc4 : ClassId) (rc5 : ClassId) (rc6 : ClassId) (w1 : Int32) (h1 : Int32) : cI l yX9_ice (.code yX9_ice cX9_ice 3 (some .boolean)) ({ frames := 2, cells := 0, slots := 0, locals := 45 }) D [(rc1, .int), (rc2, .int), (rc3, .int), (rc4, .int), (rc5, .boolean), (rc6, .boolean)] [(h0, .inr (8, [.ref tp, .ref rd, .ref dr, .ref fa, .ref ly, .ref wy])), (fa, .inr (3, [.ref cu, .ref rv, .ref bt, .int 0, .int 0, .int 0])), (rv, .inr (5, [.int 5, .int 5, .ref rv1, .ref rv2, .ref rv3, .ref rv4, .ref rv5, .ref rv6])), (rv1, .inl (rc1, 100, .inl (fun _ => 0))), (rv2, .inl (rc2, 100, .inl (fun _ => 0))), (rv3, .inl (rc3, 100, .inl (fun _ => 0))), (rv4, .inl (rc4, 100, .inl (fun _ => (-1)))), (rv5, .inl (rc5, 100, .inl (fun _ => 0))), (rv6, .inl (rc6, 100, .inl (fun _ => 0)))] xT [.ref h0, .int w1, .int h1] (S := Unit) (fun r _ => r = (if w1 < 3 ∨ 10 < w1 ∨ h1 < 3 ∨ 10 < h1 then 0 else 1)) (fun _ => []) (fun _ => []) := by
  intro sz
  refine Met.ofW (cc := cX9_ice) (maxL := 3) (ret := (some .boolean)) (by decide) rfl ?_
  intro p e s m args below meth c s₁ B hml hv
  obtain ⟨rfl, hsz, hP, hK, hD0, hX⟩ := hv
  have hx := B.exec
  have hb := B.bytes
  have hr := B.returns
  have hts0 := atoms_spec (ws := .code yX9_ice cX9_ice 3 (some .boolean) :: gw) B.pre
  have hts := fun (w : Cond) (h : w ∈ gw) => hts0 w (List.mem_cons_of_mem _ h)
  have hown : s.vm.findClass RX9 = some m.cls := findClass_of_methodNamed B.named
  have hlocks := B.notSynchronized
  have F : mFix p s m _ c cX9_ice 3 RX9 := ⟨hx, hb, hml, hown, hts⟩
  subst hsz
  have hD := hD0.self (sz := s.heap.size)
  generalize hAe : va_A [(h0, .inr (8, [.ref tp, .ref rd, .ref dr, .ref fa, .ref ly, .ref wy])), (fa, .inr (3, [.ref cu, .ref rv, .ref bt, .int 0, .int 0, .int 0])), (rv, .inr (5, [.int 5, .int 5, .ref rv1, .ref rv2, .ref rv3, .ref rv4, .ref rv5, .ref rv6])), (rv1, .inl (rc1, 100, .inl (fun _ => 0))), (rv2, .inl (rc2, 100, .inl (fun _ => 0))), (rv3, .inl (rc3, 100, .inl (fun _ => 0))), (rv4, .inl (rc4, 100, .inl (fun _ => (-1)))), (rv5, .inl (rc5, 100, .inl (fun _ => 0))), (rv6, .inl (rc6, 100, .inl (fun _ => 0)))] s.heap.size = A at hD hX ⊢
  have hA : ∀ q : Nat, s.heap.size ≤ q → A q := fun q h => by rw [← hAe]; exact Or.inr h
  have hS : va_S A s.heap s.heap [] := va_S.rf
  have hl := lv_entry ([.ref h0, .int w1, .int h1]) (n := 3) (Nat.le_of_ble_eq_true rfl)
  rw [lg_entry_eq]
  generalize (lg_sl ([.ref h0, .int w1, .int h1]) ++ List.replicate (3 - (lg_sl ([.ref h0, .int w1, .int h1])).length) Slot.unset).toArray = ls at hl ⊢
  have hl : lv_has ls 3 [(0, .ref h0), (1, .int w1), (2, .int h1)] := hl
  have hP : va_P D vwCl [(h0, .inr (8, [.ref tp, .ref rd, .ref dr, .ref fa, .ref ly, .ref wy])), (fa, .inr (3, [.ref cu, .ref rv, .ref bt, .int 0, .int 0, .int 0])), (rv, .inr (5, [.int 5, .int 5, .ref rv1, .ref rv2, .ref rv3, .ref rv4, .ref rv5, .ref rv6])), (rv1, .inl (rc1, 100, .inl (fun _ => 0))), (rv2, .inl (rc2, 100, .inl (fun _ => 0))), (rv3, .inl (rc3, 100, .inl (fun _ => 0))), (rv4, .inl (rc4, 100, .inl (fun _ => (-1)))), (rv5, .inl (rc5, 100, .inl (fun _ => 0))), (rv6, .inl (rc6, 100, .inl (fun _ => 0)))] s.heap := hP
  refine lv_iload_n hx hb dX9_ice_0 rfl (lv_at hl 1 rfl) ?_
  refine lv_iconst (v := 3) hx hb dX9_ice_1 (by decide) ?_
  refine lv_icmp_lt (tgt := 22) hx hb dX9_ice_2 (by decide) (fun c_1 => ?_) (fun c_1 => ?_)
  · skip
    refine lv_iconst (v := 0) hx hb dX9_ice_22 (by decide) ?_
    have hP9 := hP.sub (ws' := []) [] rfl
    have hD9 := hD.sub (ws' := []) [] (by decide) rfl
    have hK9 := hK.sub (tys' := []) [] rfl
    refine W.widen (k := 0) (n := 0) (by decide) (by decide) ?_
    exact W.zret (v := 0) hx hb hr rfl (fun t ht hW => ⟨⟨0, (), rfl, by simp only [c_1, or_false, false_or, or_true, true_or, not_true_eq_false, not_false_eq_true, ↓reduceIte], by rw [ht]; exact hP9, va_K.moved hW.alike hK9, hD9⟩, hS.F ht⟩) hS.2.2 dX9_ice_23
  · skip
    refine lv_iload_n hx hb dX9_ice_5 rfl (lv_at hl 1 rfl) ?_
    refine lv_bipush (v := 10) hx hb dX9_ice_6 (by decide) ?_
    refine lv_icmp_gt (tgt := 22) hx hb dX9_ice_8 (by decide) (fun c_2 => ?_) (fun c_2 => ?_)
    · skip
      refine lv_iconst (v := 0) hx hb dX9_ice_22 (by decide) ?_
      have hP9 := hP.sub (ws' := []) [] rfl
      have hD9 := hD.sub (ws' := []) [] (by decide) rfl
      have hK9 := hK.sub (tys' := []) [] rfl
      refine W.widen (k := 0) (n := 0) (by decide) (by decide) ?_
      exact W.zret (v := 0) hx hb hr rfl (fun t ht hW => ⟨⟨0, (), rfl, by simp only [c_1, c_2, or_false, false_or, or_true, true_or, not_true_eq_false, not_false_eq_true, ↓reduceIte], by rw [ht]; exact hP9, va_K.moved hW.alike hK9, hD9⟩, hS.F ht⟩) hS.2.2 dX9_ice_23
    · skip
      refine lv_iload_n hx hb dX9_ice_11 rfl (lv_at hl 2 rfl) ?_
      refine lv_iconst (v := 3) hx hb dX9_ice_12 (by decide) ?_
      refine lv_icmp_lt (tgt := 22) hx hb dX9_ice_13 (by decide) (fun c_3 => ?_) (fun c_3 => ?_)
      · skip
        refine lv_iconst (v := 0) hx hb dX9_ice_22 (by decide) ?_
        have hP9 := hP.sub (ws' := []) [] rfl
        have hD9 := hD.sub (ws' := []) [] (by decide) rfl
        have hK9 := hK.sub (tys' := []) [] rfl
        refine W.widen (k := 0) (n := 0) (by decide) (by decide) ?_
        exact W.zret (v := 0) hx hb hr rfl (fun t ht hW => ⟨⟨0, (), rfl, by simp only [c_1, c_2, c_3, or_false, false_or, or_true, true_or, not_true_eq_false, not_false_eq_true, ↓reduceIte], by rw [ht]; exact hP9, va_K.moved hW.alike hK9, hD9⟩, hS.F ht⟩) hS.2.2 dX9_ice_23
      · skip
        refine lv_iload_n hx hb dX9_ice_16 rfl (lv_at hl 2 rfl) ?_
        refine lv_bipush (v := 10) hx hb dX9_ice_17 (by decide) ?_
        refine lv_icmp_le (tgt := 24) hx hb dX9_ice_19 (by decide) (fun c_4 => ?_) (fun c_4 => ?_)
        · skip
          have c_4 := Int32.not_lt.mpr c_4
          refine lv_aload_n hx hb dX9_ice_24 rfl (lv_at hl 0 rfl) ?_
          refine va_get (D := D) (ci := 8) (v := .ref fa) (C := RX9) (T := TX9) (N := 6) hx hb hts inG_X9 hown hK hP 0 rfl rfl 3 (by decide) (hts _ kw_2_70) (fun _ h9 => h9) rfl dX9_ice_25 ?_
          refine lv_iload_n hx hb dX9_ice_28 rfl (lv_at hl 1 rfl) ?_
          refine lv_iload_n hx hb dX9_ice_29 rfl (lv_at hl 2 rfl) ?_
          refine mc_Vv (rest := []) (wr := [(h0, .inr (8, [.ref tp, .ref rd, .ref dr, .ref fa, .ref ly, .ref wy]))]) F hK hP hD hS hA (c_Fair_renew l D fa cu rv bt rv1 rv2 rv3 rv4 rv5 rv6 rc1 rc2 rc3 rc4 rc5 rc6 (fun _ => 0) (fun _ => 0) (fun _ => 0) (fun _ => (-1)) (fun _ => 0) (fun _ => 0) 0 0 0 5 5 w1 h1 ) ⟨gk_X9_80.1, gk_X9_80.2, Nat.le_of_ble_eq_true rfl, Nat.le_of_ble_eq_true rfl⟩ [1, 2, 3, 4, 5, 6, 7, 8] [0] [0, 1, 2, 3, 4, 5] ⟨rfl, rfl, rfl, rfl, by decide⟩ rfl xT_move (fun _ _ _ => trivial) 1 rfl rfl rfl hl.1 rfl (Nat.le_of_ble_eq_true rfl) dX9_ice_30 ⟨Nat.le_of_ble_eq_true rfl, Nat.le_of_ble_eq_true rfl⟩ (fun _ H locs hw hK1 hP hD hS => ?_)
          have hP : va_P D vwCl [(h0, .inr (8, [.ref tp, .ref rd, .ref dr, .ref fa, .ref ly, .ref wy])), (fa, .inr (3, [.ref cu, .ref rv, .ref bt, .int 0, .int 0, .int 0])), (rv, .inr (5, [.int w1, .int h1, .ref rv1, .ref rv2, .ref rv3, .ref rv4, .ref rv5, .ref rv6])), (rv1, .inl (rc1, 100, .inl (fun _ => 0))), (rv2, .inl (rc2, 100, .inl (fun _ => 0))), (rv3, .inl (rc3, 100, .inl (fun _ => 0))), (rv4, .inl (rc4, 100, .inl (fun _ => (-1)))), (rv5, .inl (rc5, 100, .inl (fun _ => 0))), (rv6, .inl (rc6, 100, .inl ((fun _ => 0))))] H := hP
          have hD : va_D A [(h0, .inr (8, [.ref tp, .ref rd, .ref dr, .ref fa, .ref ly, .ref wy])), (fa, .inr (3, [.ref cu, .ref rv, .ref bt, .int 0, .int 0, .int 0])), (rv, .inr (5, [.int w1, .int h1, .ref rv1, .ref rv2, .ref rv3, .ref rv4, .ref rv5, .ref rv6])), (rv1, .inl (rc1, 100, .inl (fun _ => 0))), (rv2, .inl (rc2, 100, .inl (fun _ => 0))), (rv3, .inl (rc3, 100, .inl (fun _ => 0))), (rv4, .inl (rc4, 100, .inl (fun _ => (-1)))), (rv5, .inl (rc5, 100, .inl (fun _ => 0))), (rv6, .inl (rc6, 100, .inl ((fun _ => 0))))] := hD
          refine lv_iconst (v := 1) hx hb dX9_ice_33 (by decide) ?_
          have hP9 := hP.sub (ws' := []) [] rfl
          have hD9 := hD.sub (ws' := []) [] (by decide) rfl
          have hK9 := hK.sub (tys' := []) [] rfl
          refine W.widen (k := 0) (n := 0) (by decide) (by decide) ?_
          exact W.zret (v := 1) hx hb hr rfl (fun t ht hW => ⟨⟨1, (), rfl, by simp only [c_1, c_2, c_3, c_4, or_false, false_or, or_true, true_or, not_true_eq_false, not_false_eq_true, ↓reduceIte], by rw [ht]; exact hP9, va_K.moved hW.alike hK9, hD9⟩, hS.F ht⟩) hS.2.2 dX9_ice_34
        · skip
          have c_4 := Int32.not_le.mp c_4
          refine lv_iconst (v := 0) hx hb dX9_ice_22 (by decide) ?_
          have hP9 := hP.sub (ws' := []) [] rfl
          have hD9 := hD.sub (ws' := []) [] (by decide) rfl
          have hK9 := hK.sub (tys' := []) [] rfl
          refine W.widen (k := 0) (n := 0) (by decide) (by decide) ?_
          exact W.zret (v := 0) hx hb hr rfl (fun t ht hW => ⟨⟨0, (), rfl, by simp only [c_1, c_2, c_3, c_4, or_false, false_or, or_true, true_or, not_true_eq_false, not_false_eq_true, ↓reduceIte], by rw [ht]; exact hP9, va_K.moved hW.alike hK9, hD9⟩, hS.F ht⟩) hS.2.2 dX9_ice_23
theorem dX9_sound_77 : decode cX9_sound 77 = .ok (.iload 9, 2) := by decide +kernel
theorem dX9_sound_79 : decode cX9_sound 79 = .ok (.iload_n 3, 1) := by decide +kernel
theorem dX9_sound_80 : decode cX9_sound 80 = .ok (.if_icmp .gt 22, 3) := by decide +kernel
theorem dX9_sound_83 : decode cX9_sound 83 = .ok (.aload 7, 2) := by decide +kernel
theorem dX9_sound_85 : decode cX9_sound 85 = .ok (.iload 9, 2) := by decide +kernel
theorem dX9_sound_87 : decode cX9_sound 87 = .ok (.iload 8, 2) := by decide +kernel
theorem dX9_sound_89 : decode cX9_sound 89 = .ok (.iload 5, 2) := by decide +kernel
theorem dX9_sound_91 : decode cX9_sound 91 = .ok (.iload 6, 2) := by decide +kernel
theorem kw_3_10 : Cond.methodLink RX9 94 yX6_makeThick ∈ gw := gw_t3 (List.mem_of_getElem? (i := 10) (by decide +kernel)) (by decide +kernel)
theorem kw_3_11 : Cond.instanceMethod yX6_makeThick ∈ gw := gw_t3 (List.mem_of_getElem? (i := 11) (by decide +kernel)) (by decide +kernel)
theorem kw_3_12 : Cond.selects RX6 yX6_makeThick yX6_makeThick ∈ gw := gw_t3 (List.mem_of_getElem? (i := 12) (by decide +kernel)) (by decide +kernel)
theorem kw_3_13 : Cond.code yX6_makeThick cX6_makeThick 5 none ∈ gw := gw_t3 (List.mem_of_getElem? (i := 13) (by decide +kernel)) (by decide +kernel)
theorem gk_X9_94 : GoodIn gw (wsV RX9 94 RX6 yX6_makeThick (.code yX6_makeThick cX6_makeThick 5 none :: gw)) ∧ (yX6_makeThick.cls = RX6 ∧ yX6_makeThick.cls ≠ "java/lang/invoke/MethodHandle" ∧ yX6_makeThick.cls ≠ "java/lang/invoke/VarHandle" ∧ (parseMethodDescriptor yX6_makeThick.desc).map (fun d => d.parameters.length) = some 4) := ⟨gi_V kw_3_10 kw_3_11 kw_3_12 kw_1_7 kw_3_13, by decide +kernel⟩
theorem dX9_sound_93 : decode cX9_sound 93 = .ok (.invokevirtual 94, 3) := by decide +kernel
theorem dX9_sound_96 : decode cX9_sound 96 = .ok (.iinc 9 1, 3) := by decide +kernel
theorem dX9_sound_99 : decode cX9_sound 99 = .ok (.goto (-22), 3) := by decide +kernel
set_option maxHeartbeats 4000000 in
set_option maxRecDepth 100000 in
theorem lp_sound_in {p : Program} {l : Launch} {e : Env} {s : State} {m : MethodId} {args : Array Value} {below : List Frame} {meth : Method} {c : Code} {Q : State → Prop} {A : Nat → Prop} {D : va_G} (F : mFix p s m args c cX9_sound 10 RX9) (hA : ∀ q, s.heap.size ≤ q → A q) (h0 : Nat) (tp : Nat) (rd : Nat) (dr : Nat) (fa : Nat) (ly : Nat) (wy : Nat) (cu : Nat) (rv : Nat) (bt : Nat) (rv1 : Nat) (rv2 : Nat) (rv3 : Nat) (rv4 : Nat) (rv5 : Nat) (rv6 : Nat) (rc1 : ClassId) (rc2 : ClassId) (rc3 : ClassId) (rc4 : ClassId) (rc5 : ClassId) (rc6 : ClassId) (i0 : Nat) (i1 : Nat) (j1 : Nat) (lo : Int32) (hi : Int32) (j : Nat) (hK : va_K D vwCl [(rc1, .int), (rc2, .int), (rc3, .int), (rc4, .int), (rc5, .boolean), (rc6, .boolean)] s)
    (kx_102 : ∀ (g1 : Nat → Int32) (g2 : Nat → Int32), ∀ (H : Heap) (locs : List Loc), va_P D vwCl [(h0, .inr (8, [.ref tp, .ref rd, .ref dr, .ref fa, .ref ly, .ref wy])), (fa, .inr (3, [.ref cu, .ref rv, .ref bt, .int 0, .int 0, .int 0])), (rv, .inr (5, [.int 5, .int 5, .ref rv1, .ref rv2, .ref rv3, .ref rv4, .ref rv5, .ref rv6])), (rv1, .inl (rc1, 100, .inl g1)), (rv2, .inl (rc2, 100, .inl g2)), (rv3, .inl (rc3, 100, .inl (fun _ => 0))), (rv4, .inl (rc4, 100, .inl (fun _ => (-1)))), (rv5, .inl (rc5, 100, .inl (fun _ => 0))), (rv6, .inl (rc6, 100, .inl (fun _ => 0)))] H → va_D A [(h0, .inr (8, [.ref tp, .ref rd, .ref dr, .ref fa, .ref ly, .ref wy])), (fa, .inr (3, [.ref cu, .ref rv, .ref bt, .int 0, .int 0, .int 0])), (rv, .inr (5, [.int 5, .int 5, .ref rv1, .ref rv2, .ref rv3, .ref rv4, .ref rv5, .ref rv6])), (rv1, .inl (rc1, 100, .inl g1)), (rv2, .inl (rc2, 100, .inl g2)), (rv3, .inl (rc3, 100, .inl (fun _ => 0))), (rv4, .inl (rc4, 100, .inl (fun _ => (-1)))), (rv5, .inl (rc5, 100, .inl (fun _ => 0))), (rv6, .inl (rc6, 100, .inl (fun _ => 0)))] → va_S A s.heap H locs → ∀ ls : Array Slot, lv_has ls 10 [(0, .ref h0), (7, .ref rv), (1, .int (nI i0)), (3, .int (nI i1)), (4, .int (nI j1)), (5, .int lo), (6, .int hi), (8, .int (nI j))] → W p l e ({ frames := 2, cells := 0, slots := 0, locals := 46 }) s m args below meth c H locs 0 0 Q (F0 m 102 ls [])) :
    ∀ n : Nat, ∀ (g1 : Nat → Int32) (g2 : Nat → Int32) (i : Nat), (i ≤ 5) → (i1 < 5) → (j < 5) → (j1 < 5) → (5 - i) < n → ∀ (H : Heap) (locs : List Loc), va_P D vwCl [(h0, .inr (8, [.ref tp, .ref rd, .ref dr, .ref fa, .ref ly, .ref wy])), (fa, .inr (3, [.ref cu, .ref rv, .ref bt, .int 0, .int 0, .int 0])), (rv, .inr (5, [.int 5, .int 5, .ref rv1, .ref rv2, .ref rv3, .ref rv4, .ref rv5, .ref rv6])), (rv1, .inl (rc1, 100, .inl g1)), (rv2, .inl (rc2, 100, .inl g2)), (rv3, .inl (rc3, 100, .inl (fun _ => 0))), (rv4, .inl (rc4, 100, .inl (fun _ => (-1)))), (rv5, .inl (rc5, 100, .inl (fun _ => 0))), (rv6, .inl (rc6, 100, .inl (fun _ => 0)))] H → va_D A [(h0, .inr (8, [.ref tp, .ref rd, .ref dr, .ref fa, .ref ly, .ref wy])), (fa, .inr (3, [.ref cu, .ref rv, .ref bt, .int 0, .int 0, .int 0])), (rv, .inr (5, [.int 5, .int 5, .ref rv1, .ref rv2, .ref rv3, .ref rv4, .ref rv5, .ref rv6])), (rv1, .inl (rc1, 100, .inl g1)), (rv2, .inl (rc2, 100, .inl g2)), (rv3, .inl (rc3, 100, .inl (fun _ => 0))), (rv4, .inl (rc4, 100, .inl (fun _ => (-1)))), (rv5, .inl (rc5, 100, .inl (fun _ => 0))), (rv6, .inl (rc6, 100, .inl (fun _ => 0)))] → va_S A s.heap H locs → ∀ ls : Array Slot, lv_has ls 10 [(0, .ref h0), (7, .ref rv), (3, .int (nI i1)), (4, .int (nI j1)), (5, .int lo), (6, .int hi), (8, .int (nI j)), (9, .int (nI i)), (1, .int (nI i0))] → W p l e ({ frames := 2, cells := 0, slots := 0, locals := 46 }) s m args below meth c H locs 0 0 Q (F0 m 77 ls []) := by
  intro n
  induction n with
  | zero => intro g1 g2 i b1 b2 b3 b4 hn; exact absurd hn (Nat.not_lt_zero _)
  | succ n ih =>
    intro g1 g2 i b1 b2 b3 b4 hn H locs hP hD hS ls hl
    obtain ⟨hx, hb, hml, hown, hts⟩ := id F
    refine lv_iload hx hb dX9_sound_77 (lv_at hl 7 rfl) ?_
    refine lv_iload_n hx hb dX9_sound_79 rfl (lv_at hl 2 rfl) ?_
    refine lv_icmp_gt (tgt := 102) hx hb dX9_sound_80 (by decide) (fun c_1 => ?_) (fun c_1 => ?_)
    · skip
      have c_1n : i1 < i := (nI_ltI (by omega) (by omega)).mp c_1
      exact kx_102 g1 g2  H locs (hP.sub [0, 1, 2, 3, 4, 5, 6, 7, 8] rfl) (hD.sub [0, 1, 2, 3, 4, 5, 6, 7, 8] (by decide) rfl) hS ls (lv_sub hl [0, 1, 8, 2, 3, 4, 5, 6] rfl)
    · skip
      have c_1n : i ≤ i1 := nb_lt (by omega) (by omega) c_1
      refine lv_aload hx hb dX9_sound_83 (lv_at hl 1 rfl) ?_
      refine lv_iload hx hb dX9_sound_85 (lv_at hl 7 rfl) ?_
      refine lv_iload hx hb dX9_sound_87 (lv_at hl 6 rfl) ?_
      refine lv_iload hx hb dX9_sound_89 (lv_at hl 4 rfl) ?_
      refine lv_iload hx hb dX9_sound_91 (lv_at hl 5 rfl) ?_
      refine mc_Vv (rest := []) (wr := [(h0, .inr (8, [.ref tp, .ref rd, .ref dr, .ref fa, .ref ly, .ref wy])), (fa, .inr (3, [.ref cu, .ref rv, .ref bt, .int 0, .int 0, .int 0]))]) F hK hP hD hS hA (c_makeThick l D rv rv1 rv2 rv3 rv4 rv5 rv6 rc1 rc2 rc3 rc4 rc5 rc6 g1 g2 (fun _ => 0) (fun _ => (-1)) (fun _ => 0) (fun _ => 0) 5 5 i j lo hi (by omega) (by omega) (by omega) (by omega) (by omega) (by omega)) ⟨gk_X9_94.1, gk_X9_94.2, Nat.le_of_ble_eq_true rfl, Nat.le_of_ble_eq_true rfl⟩ [2, 3, 4, 5, 6, 7, 8] [0, 1] [0, 1, 2, 3, 4, 5] ⟨rfl, rfl, rfl, rfl, by decide⟩ rfl xT_move (fun _ _ _ => trivial) 2 rfl rfl rfl hl.1 rfl (Nat.le_of_ble_eq_true rfl) dX9_sound_93 ⟨Nat.le_of_ble_eq_true rfl, Nat.le_of_ble_eq_true rfl⟩ (fun u H locs hw hK1 hP hD hS => ?_)
      obtain ⟨g1_2, g2_3⟩ := u
      have hP : va_P D vwCl [(h0, .inr (8, [.ref tp, .ref rd, .ref dr, .ref fa, .ref ly, .ref wy])), (fa, .inr (3, [.ref cu, .ref rv, .ref bt, .int 0, .int 0, .int 0])), (rv, .inr (5, [.int 5, .int 5, .ref rv1, .ref rv2, .ref rv3, .ref rv4, .ref rv5, .ref rv6])), (rv1, .inl (rc1, 100, .inl g1_2)), (rv2, .inl (rc2, 100, .inl g2_3)), (rv3, .inl (rc3, 100, .inl ((fun _ => 0)))), (rv4, .inl (rc4, 100, .inl ((fun _ => (-1))))), (rv5, .inl (rc5, 100, .inl ((fun _ => 0)))), (rv6, .inl (rc6, 100, .inl ((fun _ => 0))))] H := hP
      have hD : va_D A [(h0, .inr (8, [.ref tp, .ref rd, .ref dr, .ref fa, .ref ly, .ref wy])), (fa, .inr (3, [.ref cu, .ref rv, .ref bt, .int 0, .int 0, .int 0])), (rv, .inr (5, [.int 5, .int 5, .ref rv1, .ref rv2, .ref rv3, .ref rv4, .ref rv5, .ref rv6])), (rv1, .inl (rc1, 100, .inl g1_2)), (rv2, .inl (rc2, 100, .inl g2_3)), (rv3, .inl (rc3, 100, .inl ((fun _ => 0)))), (rv4, .inl (rc4, 100, .inl ((fun _ => (-1))))), (rv5, .inl (rc5, 100, .inl ((fun _ => 0)))), (rv6, .inl (rc6, 100, .inl ((fun _ => 0))))] := hD
      refine lv_iinc (v := nI (i + 1)) (lv' := [(9, .int (nI (i + 1))), (0, .ref h0), (7, .ref rv), (3, .int (nI i1)), (4, .int (nI j1)), (5, .int lo), (6, .int hi), (8, .int (nI j)), (1, .int (nI i0))]) hx hb dX9_sound_96 hl (k := 7) rfl (nI_add i 1) (by decide) rfl (fun ls hl => ?_)
      refine lv_goto (tgt := 77) hx hb dX9_sound_99 (by decide) ?_
      exact ih g1_2 g2_3 (i + 1) (by omega) (by omega) (by omega) (by omega) (by omega) H locs (hP.sub [0, 1, 2, 3, 4, 5, 6, 7, 8] rfl) (hD.sub [0, 1, 2, 3, 4, 5, 6, 7, 8] (by decide) rfl) hS ls (lv_sub hl [1, 2, 3, 4, 5, 6, 7, 0, 8] rfl)
theorem dX9_sound_67 : decode cX9_sound 67 = .ok (.iload 8, 2) := by decide +kernel
theorem dX9_sound_69 : decode cX9_sound 69 = .ok (.iload 4, 2) := by decide +kernel
theorem dX9_sound_71 : decode cX9_sound 71 = .ok (.if_icmp .gt 37, 3) := by decide +kernel
theorem dX9_sound_74 : decode cX9_sound 74 = .ok (.iload_n 1, 1) := by decide +kernel
theorem dX9_sound_75 : decode cX9_sound 75 = .ok (.istore 9, 2) := by decide +kernel
theorem dX9_sound_102 : decode cX9_sound 102 = .ok (.iinc 8 1, 3) := by decide +kernel
theorem dX9_sound_105 : decode cX9_sound 105 = .ok (.goto (-38), 3) := by decide +kernel
set_option maxHeartbeats 4000000 in
set_option maxRecDepth 100000 in
theorem lp_sound_out {p : Program} {l : Launch} {e : Env} {s : State} {m : MethodId} {args : Array Value} {below : List Frame} {meth : Method} {c : Code} {Q : State → Prop} {A : Nat → Prop} {D : va_G} (F : mFix p s m args c cX9_sound 10 RX9) (hA : ∀ q, s.heap.size ≤ q → A q) (h0 : Nat) (tp : Nat) (rd : Nat) (dr : Nat) (fa : Nat) (ly : Nat) (wy : Nat) (cu : Nat) (rv : Nat) (bt : Nat) (rv1 : Nat) (rv2 : Nat) (rv3 : Nat) (rv4 : Nat) (rv5 : Nat) (rv6 : Nat) (rc1 : ClassId) (rc2 : ClassId) (rc3 : ClassId) (rc4 : ClassId) (rc5 : ClassId) (rc6 : ClassId) (i0 : Nat) (i1 : Nat) (j1 : Nat) (lo : Int32) (hi : Int32) (hK : va_K D vwCl [(rc1, .int), (rc2, .int), (rc3, .int), (rc4, .int), (rc5, .boolean), (rc6, .boolean)] s)
    (kx_108 : ∀ (g1 : Nat → Int32) (g2 : Nat → Int32), ∀ (H : Heap) (locs : List Loc), va_P D vwCl [(h0, .inr (8, [.ref tp, .ref rd, .ref dr, .ref fa, .ref ly, .ref wy])), (fa, .inr (3, [.ref cu, .ref rv, .ref bt, .int 0, .int 0, .int 0])), (rv, .inr (5, [.int 5, .int 5, .ref rv1, .ref rv2, .ref rv3, .ref rv4, .ref rv5, .ref rv6])), (rv1, .inl (rc1, 100, .inl g1)), (rv2, .inl (rc2, 100, .inl g2)), (rv3, .inl (rc3, 100, .inl (fun _ => 0))), (rv4, .inl (rc4, 100, .inl (fun _ => (-1)))), (rv5, .inl (rc5, 100, .inl (fun _ => 0))), (rv6, .inl (rc6, 100, .inl (fun _ => 0)))] H → va_D A [(h0, .inr (8, [.ref tp, .ref rd, .ref dr, .ref fa, .ref ly, .ref wy])), (fa, .inr (3, [.ref cu, .ref rv, .ref bt, .int 0, .int 0, .int 0])), (rv, .inr (5, [.int 5, .int 5, .ref rv1, .ref rv2, .ref rv3, .ref rv4, .ref rv5, .ref rv6])), (rv1, .inl (rc1, 100, .inl g1)), (rv2, .inl (rc2, 100, .inl g2)), (rv3, .inl (rc3, 100, .inl (fun _ => 0))), (rv4, .inl (rc4, 100, .inl (fun _ => (-1)))), (rv5, .inl (rc5, 100, .inl (fun _ => 0))), (rv6, .inl (rc6, 100, .inl (fun _ => 0)))] → va_S A s.heap H locs → ∀ ls : Array Slot, lv_has ls 10 [] → W p l e ({ frames := 2, cells := 0, slots := 0, locals := 46 }) s m args below meth c H locs 0 0 Q (F0 m 108 ls [])) :
    ∀ n : Nat, ∀ (g1 : Nat → Int32) (g2 : Nat → Int32) (j : Nat), (j ≤ 5) → (i1 < 5) → (i0 < 5) → (j1 < 5) → (5 - j) < n → ∀ (H : Heap) (locs : List Loc), va_P D vwCl [(h0, .inr (8, [.ref tp, .ref rd, .ref dr, .ref fa, .ref ly, .ref wy])), (fa, .inr (3, [.ref cu, .ref rv, .ref bt, .int 0, .int 0, .int 0])), (rv, .inr (5, [.int 5, .int 5, .ref rv1, .ref rv2, .ref rv3, .ref rv4, .ref rv5, .ref rv6])), (rv1, .inl (rc1, 100, .inl g1)), (rv2, .inl (rc2, 100, .inl g2)), (rv3, .inl (rc3, 100, .inl (fun _ => 0))), (rv4, .inl (rc4, 100, .inl (fun _ => (-1)))), (rv5, .inl (rc5, 100, .inl (fun _ => 0))), (rv6, .inl (rc6, 100, .inl (fun _ => 0)))] H → va_D A [(h0, .inr (8, [.ref tp, .ref rd, .ref dr, .ref fa, .ref ly, .ref wy])), (fa, .inr (3, [.ref cu, .ref rv, .ref bt, .int 0, .int 0, .int 0])), (rv, .inr (5, [.int 5, .int 5, .ref rv1, .ref rv2, .ref rv3, .ref rv4, .ref rv5, .ref rv6])), (rv1, .inl (rc1, 100, .inl g1)), (rv2, .inl (rc2, 100, .inl g2)), (rv3, .inl (rc3, 100, .inl (fun _ => 0))), (rv4, .inl (rc4, 100, .inl (fun _ => (-1)))), (rv5, .inl (rc5, 100, .inl (fun _ => 0))), (rv6, .inl (rc6, 100, .inl (fun _ => 0)))] → va_S A s.heap H locs → ∀ ls : Array Slot, lv_has ls 10 [(0, .ref h0), (7, .ref rv), (1, .int (nI i0)), (3, .int (nI i1)), (4, .int (nI j1)), (5, .int lo), (6, .int hi), (8, .int (nI j))] → W p l e ({ frames := 2, cells := 0, slots := 0, locals := 46 }) s m args below meth c H locs 0 0 Q (F0 m 67 ls []) := by
  intro n
  induction n with
  | zero => intro g1 g2 j b1 b2 b3 b4 hn; exact absurd hn (Nat.not_lt_zero _)
  | succ n ih =>
    intro g1 g2 j b1 b2 b3 b4 hn H locs hP hD hS ls hl
    obtain ⟨hx, hb, hml, hown, hts⟩ := id F
    refine lv_iload hx hb dX9_sound_67 (lv_at hl 7 rfl) ?_
    refine lv_iload hx hb dX9_sound_69 (lv_at hl 4 rfl) ?_
    refine lv_icmp_gt (tgt := 108) hx hb dX9_sound_71 (by decide) (fun c_1 => ?_) (fun c_1 => ?_)
    · skip
      have c_1n : j1 < j := (nI_ltI (by omega) (by omega)).mp c_1
      exact kx_108 g1 g2  H locs (hP.sub [0, 1, 2, 3, 4, 5, 6, 7, 8] rfl) (hD.sub [0, 1, 2, 3, 4, 5, 6, 7, 8] (by decide) rfl) hS ls (lv_sub hl [] rfl)
    · skip
      have c_1n : j ≤ j1 := nb_lt (by omega) (by omega) c_1
      refine lv_iload_n hx hb dX9_sound_74 rfl (lv_at hl 2 rfl) ?_
      refine lv_istore (lv' := [(9, .int (nI i0)), (0, .ref h0), (7, .ref rv), (1, .int (nI i0)), (3, .int (nI i1)), (4, .int (nI j1)), (5, .int lo), (6, .int hi), (8, .int (nI j))]) hx hb dX9_sound_75 hl (by decide) rfl (fun ls hl => ?_)
      refine lp_sound_in F hA h0 tp rd dr fa ly wy cu rv bt rv1 rv2 rv3 rv4 rv5 rv6 rc1 rc2 rc3 rc4 rc5 rc6 i0 i1 j1 lo hi j (hK.sub [0, 1, 2, 3, 4, 5] rfl) (fun g1_2 g2_3  H locs hP hD hS ls hl => ?_) _ g1 g2 i0 (by omega) (by omega) (by omega) (by omega) (Nat.lt_succ_self _) _ _ (hP.sub [0, 1, 2, 3, 4, 5, 6, 7, 8] rfl) (hD.sub [0, 1, 2, 3, 4, 5, 6, 7, 8] (by decide) rfl) hS ls (lv_sub hl [1, 2, 4, 5, 6, 7, 8, 0, 3] rfl)
      refine lv_iinc (v := nI (j + 1)) (lv' := [(8, .int (nI (j + 1))), (0, .ref h0), (7, .ref rv), (1, .int (nI i0)), (3, .int (nI i1)), (4, .int (nI j1)), (5, .int lo), (6, .int hi)]) hx hb dX9_sound_102 hl (k := 7) rfl (nI_add j 1) (by decide) rfl (fun ls hl => ?_)
      refine lv_goto (tgt := 67) hx hb dX9_sound_105 (by decide) ?_
      exact ih g1_2 g2_3 (j + 1) (by omega) (by omega) (by omega) (by omega) (by omega) H locs (hP.sub [0, 1, 2, 3, 4, 5, 6, 7, 8] rfl) (hD.sub [0, 1, 2, 3, 4, 5, 6, 7, 8] (by decide) rfl) hS ls (lv_sub hl [1, 2, 3, 4, 5, 6, 7, 0] rfl)
theorem dX9_sound_0 : decode cX9_sound 0 = .ok (.aload_n 0, 1) := by decide +kernel
theorem dX9_sound_1 : decode cX9_sound 1 = .ok (.getfield 33, 3) := by decide +kernel
theorem kw_1_222 : Cond.fieldLink RX9 84 "IceFair$Fair" "river" "LIceFair$River;" ∈ gw := gw_t1 (List.mem_of_getElem? (i := 222) (by decide +kernel)) (by decide +kernel)
theorem dX9_sound_4 : decode cX9_sound 4 = .ok (.getfield 84, 3) := by decide +kernel
theorem dX9_sound_7 : decode cX9_sound 7 = .ok (.astore 7, 2) := by decide +kernel
theorem dX9_sound_9 : decode cX9_sound 9 = .ok (.aload 7, 2) := by decide +kernel
theorem dX9_sound_11 : decode cX9_sound 11 = .ok (.iload_n 1, 1) := by decide +kernel
theorem dX9_sound_12 : decode cX9_sound 12 = .ok (.iload_n 2, 1) := by decide +kernel
theorem kw_3_6 : Cond.methodLink RX9 88 yX6_has ∈ gw := gw_t3 (List.mem_of_getElem? (i := 6) (by decide +kernel)) (by decide +kernel)
theorem gk_X9_88 : GoodIn gw (wsV RX9 88 RX6 yX6_has (.code yX6_has cX6_has 3 (some .boolean) :: gw)) ∧ (yX6_has.cls = RX6 ∧ yX6_has.cls ≠ "java/lang/invoke/MethodHandle" ∧ yX6_has.cls ≠ "java/lang/invoke/VarHandle" ∧ (parseMethodDescriptor yX6_has.desc).map (fun d => d.parameters.length) = some 2) := ⟨gi_V kw_3_6 kw_3_7 kw_3_8 kw_1_7 kw_3_9, by decide +kernel⟩
theorem dX9_sound_13 : decode cX9_sound 13 = .ok (.invokevirtual 88, 3) := by decide +kernel
theorem dX9_sound_16 : decode cX9_sound 16 = .ok (.ifCond .eq 25, 3) := by decide +kernel
theorem dX9_sound_41 : decode cX9_sound 41 = .ok (.iconst 0, 1) := by decide +kernel
theorem dX9_sound_42 : decode cX9_sound 42 = .ok (.ireturn, 1) := by decide +kernel
theorem dX9_sound_19 : decode cX9_sound 19 = .ok (.aload 7, 2) := by decide +kernel
theorem dX9_sound_21 : decode cX9_sound 21 = .ok (.iload_n 3, 1) := by decide +kernel
theorem dX9_sound_22 : decode cX9_sound 22 = .ok (.iload 4, 2) := by decide +kernel
theorem dX9_sound_24 : decode cX9_sound 24 = .ok (.invokevirtual 88, 3) := by decide +kernel
theorem dX9_sound_27 : decode cX9_sound 27 = .ok (.ifCond .eq 14, 3) := by decide +kernel
theorem dX9_sound_30 : decode cX9_sound 30 = .ok (.iload_n 1, 1) := by decide +kernel
theorem dX9_sound_31 : decode cX9_sound 31 = .ok (.iload_n 3, 1) := by decide +kernel
theorem dX9_sound_32 : decode cX9_sound 32 = .ok (.if_icmp .gt 9, 3) := by decide +kernel
theorem dX9_sound_35 : decode cX9_sound 35 = .ok (.iload_n 2, 1) := by decide +kernel
theorem dX9_sound_36 : decode cX9_sound 36 = .ok (.iload 4, 2) := by decide +kernel
theorem dX9_sound_38 : decode cX9_sound 38 = .ok (.if_icmp .le 5, 3) := by decide +kernel
theorem dX9_sound_43 : decode cX9_sound 43 = .ok (.iload 5, 2) := by decide +kernel
theorem dX9_sound_45 : decode cX9_sound 45 = .ok (.ifCond .lt 17, 3) := by decide +kernel
theorem dX9_sound_62 : decode cX9_sound 62 = .ok (.iconst 0, 1) := by decide +kernel
theorem dX9_sound_63 : decode cX9_sound 63 = .ok (.ireturn, 1) := by decide +kernel
theorem dX9_sound_48 : decode cX9_sound 48 = .ok (.iload 5, 2) := by decide +kernel
theorem dX9_sound_50 : decode cX9_sound 50 = .ok (.iload 6, 2) := by decide +kernel
theorem dX9_sound_52 : decode cX9_sound 52 = .ok (.if_icmp .gt 10, 3) := by decide +kernel
theorem dX9_sound_55 : decode cX9_sound 55 = .ok (.iload 6, 2) := by decide +kernel
theorem dX9_sound_57 : decode cX9_sound 57 = .ok (.bipush 99, 2) := by decide +kernel
theorem dX9_sound_59 : decode cX9_sound 59 = .ok (.if_icmp .le 5, 3) := by decide +kernel
theorem dX9_sound_64 : decode cX9_sound 64 = .ok (.iload_n 2, 1) := by decide +kernel
theorem dX9_sound_65 : decode cX9_sound 65 = .ok (.istore 8, 2) := by decide +kernel
theorem dX9_sound_108 : decode cX9_sound 108 = .ok (.iconst 1, 1) := by decide +kernel
theorem dX9_sound_109 : decode cX9_sound 109 = .ok (.ireturn, 1) := by decide +kernel
set_option maxHeartbeats 4000000 in
set_option maxRecDepth 100000 in
theorem c_sound (l : Launch) (D : va_G) (h0 : Nat) (tp : Nat) (rd : Nat) (dr : Nat) (fa : Nat) (ly : Nat) (wy : Nat) (cu : Nat) (rv : Nat) (bt : Nat) (rv1 : Nat) (rv2 : Nat) (rv3 : Nat) (rv4 : Nat) (rv5 : Nat) (rv6 : Nat) (rc1 : ClassId) (rc2 : ClassId) (rc3 : ClassId) (rc4 : ClassId) (rc5 : ClassId) (rc6 : ClassId) (x0 : Int32) (y0 : Int32) (x1 : Int32) (y1 : Int32) (lo : Int32) (hi : Int32) : cI l yX9_sound (.code yX9_sound cX9_sound 10 (some .boolean)) ({ frames := 2, cells := 0, slots := 0, locals := 46 }) D [(rc1, .int), (rc2, .int), (rc3, .int), (rc4, .int), (rc5, .boolean), (rc6, .boolean)] [(h0, .inr (8, [.ref tp, .ref rd, .ref dr, .ref fa, .ref ly, .ref wy])), (fa, .inr (3, [.ref cu, .ref rv, .ref bt, .int 0, .int 0, .int 0])), (rv, .inr (5, [.int 5, .int 5, .ref rv1, .ref rv2, .ref rv3, .ref rv4, .ref rv5, .ref rv6])), (rv1, .inl (rc1, 100, .inl (fun _ => 0))), (rv2, .inl (rc2, 100, .inl (fun _ => 0))), (rv3, .inl (rc3, 100, .inl (fun _ => 0))), (rv4, .inl (rc4, 100, .inl (fun _ => (-1)))), (rv5, .inl (rc5, 100, .inl (fun _ => 0))), (rv6, .inl (rc6, 100, .inl (fun _ => 0)))] xT [.ref h0, .int x0, .int y0, .int x1, .int y1, .int lo, .int hi] (S := Unit) (fun r _ => r = (if (x0 < 0 ∨ ¬ x0 < nI 5 ∨ y0 < 0 ∨ ¬ y0 < nI 5) ∨ (x1 < 0 ∨ ¬ x1 < nI 5 ∨ y1 < 0 ∨ ¬ y1 < nI 5) ∨ x1 < x0 ∨ y1 < y0 ∨ lo < 0 ∨ hi < lo ∨ 99 < hi then 0 else 1)) (fun _ => []) (fun _ => []) := by
  intro sz
  refine Met.ofW (cc := cX9_sound) (maxL := 10) (ret := (some .boolean)) (by decide) rfl ?_
  intro p e s m args below meth c s₁ B hml hv
  obtain ⟨rfl, hsz, hP, hK, hD0, hX⟩ := hv
  have hx := B.exec
  have hb := B.bytes
  have hr := B.returns
  have hts0 := atoms_spec (ws := .code yX9_sound cX9_sound 10 (some .boolean) :: gw) B.pre
  have hts := fun (w : Cond) (h : w ∈ gw) => hts0 w (List.mem_cons_of_mem _ h)
  have hown : s.vm.findClass RX9 = some m.cls := findClass_of_methodNamed B.named
  have hlocks := B.notSynchronized
  have F : mFix p s m _ c cX9_sound 10 RX9 := ⟨hx, hb, hml, hown, hts⟩
  subst hsz
  have hD := hD0.self (sz := s.heap.size)
  generalize hAe : va_A [(h0, .inr (8, [.ref tp, .ref rd, .ref dr, .ref fa, .ref ly, .ref wy])), (fa, .inr (3, [.ref cu, .ref rv, .ref bt, .int 0, .int 0, .int 0])), (rv, .inr (5, [.int 5, .int 5, .ref rv1, .ref rv2, .ref rv3, .ref rv4, .ref rv5, .ref rv6])), (rv1, .inl (rc1, 100, .inl (fun _ => 0))), (rv2, .inl (rc2, 100, .inl (fun _ => 0))), (rv3, .inl (rc3, 100, .inl (fun _ => 0))), (rv4, .inl (rc4, 100, .inl (fun _ => (-1)))), (rv5, .inl (rc5, 100, .inl (fun _ => 0))), (rv6, .inl (rc6, 100, .inl (fun _ => 0)))] s.heap.size = A at hD hX ⊢
  have hA : ∀ q : Nat, s.heap.size ≤ q → A q := fun q h => by rw [← hAe]; exact Or.inr h
  have hS : va_S A s.heap s.heap [] := va_S.rf
  have hl := lv_entry ([.ref h0, .int x0, .int y0, .int x1, .int y1, .int lo, .int hi]) (n := 10) (Nat.le_of_ble_eq_true rfl)
  rw [lg_entry_eq]
  generalize (lg_sl ([.ref h0, .int x0, .int y0, .int x1, .int y1, .int lo, .int hi]) ++ List.replicate (10 - (lg_sl ([.ref h0, .int x0, .int y0, .int x1, .int y1, .int lo, .int hi])).length) Slot.unset).toArray = ls at hl ⊢
  have hl : lv_has ls 10 [(0, .ref h0), (1, .int x0), (2, .int y0), (3, .int x1), (4, .int y1), (5, .int lo), (6, .int hi)] := hl
  have hP : va_P D vwCl [(h0, .inr (8, [.ref tp, .ref rd, .ref dr, .ref fa, .ref ly, .ref wy])), (fa, .inr (3, [.ref cu, .ref rv, .ref bt, .int 0, .int 0, .int 0])), (rv, .inr (5, [.int 5, .int 5, .ref rv1, .ref rv2, .ref rv3, .ref rv4, .ref rv5, .ref rv6])), (rv1, .inl (rc1, 100, .inl (fun _ => 0))), (rv2, .inl (rc2, 100, .inl (fun _ => 0))), (rv3, .inl (rc3, 100, .inl (fun _ => 0))), (rv4, .inl (rc4, 100, .inl (fun _ => (-1)))), (rv5, .inl (rc5, 100, .inl (fun _ => 0))), (rv6, .inl (rc6, 100, .inl (fun _ => 0)))] s.heap := hP
  refine lv_aload_n hx hb dX9_sound_0 rfl (lv_at hl 0 rfl) ?_
  refine va_get (D := D) (ci := 8) (v := .ref fa) (C := RX9) (T := TX9) (N := 6) hx hb hts inG_X9 hown hK hP 0 rfl rfl 3 (by decide) (hts _ kw_2_70) (fun _ h9 => h9) rfl dX9_sound_1 ?_
  refine va_get (D := D) (ci := 3) (v := .ref rv) (C := RX3) (T := TX3) (N := 6) hx hb hts inG_X3 hown hK hP 1 rfl rfl 1 (by decide) (hts _ kw_1_222) (fun _ h9 => h9) rfl dX9_sound_4 ?_
  refine lv_astore (lv' := [(7, .ref rv), (0, .ref h0), (1, .int x0), (2, .int y0), (3, .int x1), (4, .int y1), (5, .int lo), (6, .int hi)]) hx hb dX9_sound_7 hl (by decide) rfl (fun ls hl => ?_)
  refine lv_aload hx hb dX9_sound_9 (lv_at hl 0 rfl) ?_
  refine lv_iload_n hx hb dX9_sound_11 rfl (lv_at hl 2 rfl) ?_
  refine lv_iload_n hx hb dX9_sound_12 rfl (lv_at hl 3 rfl) ?_
  refine mc_Vi (rest := []) (wr := [(h0, .inr (8, [.ref tp, .ref rd, .ref dr, .ref fa, .ref ly, .ref wy])), (fa, .inr (3, [.ref cu, .ref rv, .ref bt, .int 0, .int 0, .int 0])), (rv1, .inl (rc1, 100, .inl (fun _ => 0))), (rv2, .inl (rc2, 100, .inl (fun _ => 0))), (rv3, .inl (rc3, 100, .inl (fun _ => 0))), (rv4, .inl (rc4, 100, .inl (fun _ => (-1)))), (rv5, .inl (rc5, 100, .inl (fun _ => 0))), (rv6, .inl (rc6, 100, .inl (fun _ => 0)))]) F hK hP hD hS hA (c_has_any l D rv rv1 rv2 rv3 rv4 rv5 rv6 5 5 x0 y0 (by omega) (by omega)) ⟨gk_X9_88.1, gk_X9_88.2, Nat.le_of_ble_eq_true rfl, Nat.le_of_ble_eq_true rfl⟩ [2] [0, 1, 3, 4, 5, 6, 7, 8] [] ⟨rfl, rfl, rfl, rfl, by decide⟩ rfl xT_move (fun _ _ _ => trivial) 2 rfl rfl rfl hl.1 rfl (Nat.le_of_ble_eq_true rfl) dX9_sound_13 ⟨Nat.le_of_ble_eq_true rfl, Nat.le_of_ble_eq_true rfl⟩ (fun r_1 _ H locs hw hK1 hP hD hS => ?_)
  have hP : va_P D vwCl [(h0, .inr (8, [.ref tp, .ref rd, .ref dr, .ref fa, .ref ly, .ref wy])), (fa, .inr (3, [.ref cu, .ref rv, .ref bt, .int 0, .int 0, .int 0])), (rv1, .inl (rc1, 100, .inl (fun _ => 0))), (rv2, .inl (rc2, 100, .inl (fun _ => 0))), (rv3, .inl (rc3, 100, .inl (fun _ => 0))), (rv4, .inl (rc4, 100, .inl (fun _ => (-1)))), (rv5, .inl (rc5, 100, .inl (fun _ => 0))), (rv6, .inl (rc6, 100, .inl (fun _ => 0))), (rv, .inr (5, [.int 5, .int 5, .ref rv1, .ref rv2, .ref rv3, .ref rv4, .ref rv5, .ref rv6]))] H := hP
  have hD : va_D A [(h0, .inr (8, [.ref tp, .ref rd, .ref dr, .ref fa, .ref ly, .ref wy])), (fa, .inr (3, [.ref cu, .ref rv, .ref bt, .int 0, .int 0, .int 0])), (rv1, .inl (rc1, 100, .inl (fun _ => 0))), (rv2, .inl (rc2, 100, .inl (fun _ => 0))), (rv3, .inl (rc3, 100, .inl (fun _ => 0))), (rv4, .inl (rc4, 100, .inl (fun _ => (-1)))), (rv5, .inl (rc5, 100, .inl (fun _ => 0))), (rv6, .inl (rc6, 100, .inl (fun _ => 0))), (rv, .inr (5, [.int 5, .int 5, .ref rv1, .ref rv2, .ref rv3, .ref rv4, .ref rv5, .ref rv6]))] := hD
  have hw_2 : r_1 = (if (x0 < 0 ∨ ¬ x0 < nI 5 ∨ y0 < 0 ∨ ¬ y0 < nI 5) then 0 else 1) := hw
  by_cases ho_3 : (x0 < 0 ∨ ¬ x0 < nI 5 ∨ y0 < 0 ∨ ¬ y0 < nI 5)
  · skip
    obtain rfl : r_1 = 0 := by rw [hw_2, if_pos ho_3]
    refine lv_if_eq (tgt := 41) hx hb dX9_sound_16 (by decide) (fun c_4 => ?_) (fun c_4 => absurd c_4 (by decide))
    refine lv_iconst (v := 0) hx hb dX9_sound_41 (by decide) ?_
    have hP9 := hP.sub (ws' := []) [] rfl
    have hD9 := hD.sub (ws' := []) [] (by decide) rfl
    have hK9 := hK.sub (tys' := []) [] rfl
    refine W.widen (k := 0) (n := 0) (by decide) (by decide) ?_
    exact W.zret (v := 0) hx hb hr rfl (fun t ht hW => ⟨⟨0, (), rfl, by simp only [ho_3, or_false, false_or, or_true, true_or, not_true_eq_false, not_false_eq_true, ↓reduceIte], by rw [ht]; exact hP9, va_K.moved hW.alike hK9, hD9⟩, hS.F ht⟩) hS.2.2 dX9_sound_42
  · skip
    obtain rfl : r_1 = 1 := by rw [hw_2, if_neg ho_3]
    obtain ⟨i_5, hi_5, ei_5⟩ : ∃ j : Nat, j < 5 ∧ x0 = nI j := n_lt (fun q => ho_3 (Or.inl q)) (fun q => ho_3 (Or.inr (Or.inl (Int32.not_lt.mpr q)))) (by omega)
    obtain ⟨j_6, hj_6, ej_6⟩ : ∃ j : Nat, j < 5 ∧ y0 = nI j := n_lt (fun q => ho_3 (Or.inr (Or.inr (Or.inl q)))) (fun q => ho_3 (Or.inr (Or.inr (Or.inr (Int32.not_lt.mpr q))))) (by omega)
    subst ei_5
    subst ej_6
    have hl : lv_has ls 10 [(7, .ref rv), (0, .ref h0), (1, .int (nI i_5)), (2, .int (nI j_6)), (3, .int x1), (4, .int y1), (5, .int lo), (6, .int hi)] := hl
    refine lv_if_eq (tgt := 41) hx hb dX9_sound_16 (by decide) (fun c_7 => absurd c_7 (by decide)) (fun c_7 => ?_)
    refine lv_aload hx hb dX9_sound_19 (lv_at hl 0 rfl) ?_
    refine lv_iload_n hx hb dX9_sound_21 rfl (lv_at hl 4 rfl) ?_
    refine lv_iload hx hb dX9_sound_22 (lv_at hl 5 rfl) ?_
    refine mc_Vi (rest := []) (wr := [(h0, .inr (8, [.ref tp, .ref rd, .ref dr, .ref fa, .ref ly, .ref wy])), (fa, .inr (3, [.ref cu, .ref rv, .ref bt, .int 0, .int 0, .int 0])), (rv1, .inl (rc1, 100, .inl (fun _ => 0))), (rv2, .inl (rc2, 100, .inl (fun _ => 0))), (rv3, .inl (rc3, 100, .inl (fun _ => 0))), (rv4, .inl (rc4, 100, .inl (fun _ => (-1)))), (rv5, .inl (rc5, 100, .inl (fun _ => 0))), (rv6, .inl (rc6, 100, .inl (fun _ => 0)))]) F hK hP hD hS hA (c_has_any l D rv rv1 rv2 rv3 rv4 rv5 rv6 5 5 x1 y1 (by omega) (by omega)) ⟨gk_X9_88.1, gk_X9_88.2, Nat.le_of_ble_eq_true rfl, Nat.le_of_ble_eq_true rfl⟩ [8] [0, 1, 2, 3, 4, 5, 6, 7] [] ⟨rfl, rfl, rfl, rfl, by decide⟩ rfl xT_move (fun _ _ _ => trivial) 8 rfl rfl rfl hl.1 rfl (Nat.le_of_ble_eq_true rfl) dX9_sound_24 ⟨Nat.le_of_ble_eq_true rfl, Nat.le_of_ble_eq_true rfl⟩ (fun r_8 _ H locs hw hK1 hP hD hS => ?_)
    have hP : va_P D vwCl [(h0, .inr (8, [.ref tp, .ref rd, .ref dr, .ref fa, .ref ly, .ref wy])), (fa, .inr (3, [.ref cu, .ref rv, .ref bt, .int 0, .int 0, .int 0])), (rv1, .inl (rc1, 100, .inl (fun _ => 0))), (rv2, .inl (rc2, 100, .inl (fun _ => 0))), (rv3, .inl (rc3, 100, .inl (fun _ => 0))), (rv4, .inl (rc4, 100, .inl (fun _ => (-1)))), (rv5, .inl (rc5, 100, .inl (fun _ => 0))), (rv6, .inl (rc6, 100, .inl (fun _ => 0))), (rv, .inr (5, [.int 5, .int 5, .ref rv1, .ref rv2, .ref rv3, .ref rv4, .ref rv5, .ref rv6]))] H := hP
    have hD : va_D A [(h0, .inr (8, [.ref tp, .ref rd, .ref dr, .ref fa, .ref ly, .ref wy])), (fa, .inr (3, [.ref cu, .ref rv, .ref bt, .int 0, .int 0, .int 0])), (rv1, .inl (rc1, 100, .inl (fun _ => 0))), (rv2, .inl (rc2, 100, .inl (fun _ => 0))), (rv3, .inl (rc3, 100, .inl (fun _ => 0))), (rv4, .inl (rc4, 100, .inl (fun _ => (-1)))), (rv5, .inl (rc5, 100, .inl (fun _ => 0))), (rv6, .inl (rc6, 100, .inl (fun _ => 0))), (rv, .inr (5, [.int 5, .int 5, .ref rv1, .ref rv2, .ref rv3, .ref rv4, .ref rv5, .ref rv6]))] := hD
    have hw_9 : r_8 = (if (x1 < 0 ∨ ¬ x1 < nI 5 ∨ y1 < 0 ∨ ¬ y1 < nI 5) then 0 else 1) := hw
    by_cases ho_10 : (x1 < 0 ∨ ¬ x1 < nI 5 ∨ y1 < 0 ∨ ¬ y1 < nI 5)
    · skip
      obtain rfl : r_8 = 0 := by rw [hw_9, if_pos ho_10]
      refine lv_if_eq (tgt := 41) hx hb dX9_sound_27 (by decide) (fun c_11 => ?_) (fun c_11 => absurd c_11 (by decide))
      refine lv_iconst (v := 0) hx hb dX9_sound_41 (by decide) ?_
      have hP9 := hP.sub (ws' := []) [] rfl
      have hD9 := hD.sub (ws' := []) [] (by decide) rfl
      have hK9 := hK.sub (tys' := []) [] rfl
      refine W.widen (k := 0) (n := 0) (by decide) (by decide) ?_
      exact W.zret (v := 0) hx hb hr rfl (fun t ht hW => ⟨⟨0, (), rfl, by simp only [ho_3, ho_10, or_false, false_or, or_true, true_or, not_true_eq_false, not_false_eq_true, ↓reduceIte], by rw [ht]; exact hP9, va_K.moved hW.alike hK9, hD9⟩, hS.F ht⟩) hS.2.2 dX9_sound_42
    · skip
      obtain rfl : r_8 = 1 := by rw [hw_9, if_neg ho_10]
      obtain ⟨i_12, hi_12, ei_12⟩ : ∃ j : Nat, j < 5 ∧ x1 = nI j := n_lt (fun q => ho_10 (Or.inl q)) (fun q => ho_10 (Or.inr (Or.inl (Int32.not_lt.mpr q)))) (by omega)
      obtain ⟨j_13, hj_13, ej_13⟩ : ∃ j : Nat, j < 5 ∧ y1 = nI j := n_lt (fun q => ho_10 (Or.inr (Or.inr (Or.inl q)))) (fun q => ho_10 (Or.inr (Or.inr (Or.inr (Int32.not_lt.mpr q))))) (by omega)
      subst ei_12
      subst ej_13
      have hl : lv_has ls 10 [(7, .ref rv), (0, .ref h0), (1, .int (nI i_5)), (2, .int (nI j_6)), (3, .int (nI i_12)), (4, .int (nI j_13)), (5, .int lo), (6, .int hi)] := hl
      refine lv_if_eq (tgt := 41) hx hb dX9_sound_27 (by decide) (fun c_14 => absurd c_14 (by decide)) (fun c_14 => ?_)
      refine lv_iload_n hx hb dX9_sound_30 rfl (lv_at hl 2 rfl) ?_
      refine lv_iload_n hx hb dX9_sound_31 rfl (lv_at hl 4 rfl) ?_
      refine lv_icmp_gt (tgt := 41) hx hb dX9_sound_32 (by decide) (fun c_15 => ?_) (fun c_15 => ?_)
      · skip
        have c_15n : i_12 < i_5 := (nI_ltI (by omega) (by omega)).mp c_15
        refine lv_iconst (v := 0) hx hb dX9_sound_41 (by decide) ?_
        have hP9 := hP.sub (ws' := []) [] rfl
        have hD9 := hD.sub (ws' := []) [] (by decide) rfl
        have hK9 := hK.sub (tys' := []) [] rfl
        refine W.widen (k := 0) (n := 0) (by decide) (by decide) ?_
        exact W.zret (v := 0) hx hb hr rfl (fun t ht hW => ⟨⟨0, (), rfl, by simp only [ho_3, ho_10, c_15, or_false, false_or, or_true, true_or, not_true_eq_false, not_false_eq_true, ↓reduceIte], by rw [ht]; exact hP9, va_K.moved hW.alike hK9, hD9⟩, hS.F ht⟩) hS.2.2 dX9_sound_42
      · skip
        have c_15n : i_5 ≤ i_12 := nb_lt (by omega) (by omega) c_15
        refine lv_iload_n hx hb dX9_sound_35 rfl (lv_at hl 3 rfl) ?_
        refine lv_iload hx hb dX9_sound_36 (lv_at hl 5 rfl) ?_
        refine lv_icmp_le (tgt := 43) hx hb dX9_sound_38 (by decide) (fun c_16 => ?_) (fun c_16 => ?_)
        · skip
          have c_16n : j_6 ≤ j_13 := (nI_leI (by omega) (by omega)).mp c_16
          have c_16 := Int32.not_lt.mpr c_16
          refine lv_iload hx hb dX9_sound_43 (lv_at hl 6 rfl) ?_
          refine lv_if_lt (tgt := 62) hx hb dX9_sound_45 (by decide) (fun c_17 => ?_) (fun c_17 => ?_)
          · skip
            refine lv_iconst (v := 0) hx hb dX9_sound_62 (by decide) ?_
            have hP9 := hP.sub (ws' := []) [] rfl
            have hD9 := hD.sub (ws' := []) [] (by decide) rfl
            have hK9 := hK.sub (tys' := []) [] rfl
            refine W.widen (k := 0) (n := 0) (by decide) (by decide) ?_
            exact W.zret (v := 0) hx hb hr rfl (fun t ht hW => ⟨⟨0, (), rfl, by simp only [ho_3, ho_10, c_15, c_16, c_17, or_false, false_or, or_true, true_or, not_true_eq_false, not_false_eq_true, ↓reduceIte], by rw [ht]; exact hP9, va_K.moved hW.alike hK9, hD9⟩, hS.F ht⟩) hS.2.2 dX9_sound_63
          · skip
            refine lv_iload hx hb dX9_sound_48 (lv_at hl 6 rfl) ?_
            refine lv_iload hx hb dX9_sound_50 (lv_at hl 7 rfl) ?_
            refine lv_icmp_gt (tgt := 62) hx hb dX9_sound_52 (by decide) (fun c_18 => ?_) (fun c_18 => ?_)
            · skip
              refine lv_iconst (v := 0) hx hb dX9_sound_62 (by decide) ?_
              have hP9 := hP.sub (ws' := []) [] rfl
              have hD9 := hD.sub (ws' := []) [] (by decide) rfl
              have hK9 := hK.sub (tys' := []) [] rfl
              refine W.widen (k := 0) (n := 0) (by decide) (by decide) ?_
              exact W.zret (v := 0) hx hb hr rfl (fun t ht hW => ⟨⟨0, (), rfl, by simp only [ho_3, ho_10, c_15, c_16, c_17, c_18, or_false, false_or, or_true, true_or, not_true_eq_false, not_false_eq_true, ↓reduceIte], by rw [ht]; exact hP9, va_K.moved hW.alike hK9, hD9⟩, hS.F ht⟩) hS.2.2 dX9_sound_63
            · skip
              refine lv_iload hx hb dX9_sound_55 (lv_at hl 7 rfl) ?_
              refine lv_bipush (v := 99) hx hb dX9_sound_57 (by decide) ?_
              refine lv_icmp_le (tgt := 64) hx hb dX9_sound_59 (by decide) (fun c_19 => ?_) (fun c_19 => ?_)
              · skip
                have c_19 := Int32.not_lt.mpr c_19
                refine lv_iload_n hx hb dX9_sound_64 rfl (lv_at hl 3 rfl) ?_
                refine lv_istore (lv' := [(8, .int (nI j_6)), (7, .ref rv), (0, .ref h0), (1, .int (nI i_5)), (2, .int (nI j_6)), (3, .int (nI i_12)), (4, .int (nI j_13)), (5, .int lo), (6, .int hi)]) hx hb dX9_sound_65 hl (by decide) rfl (fun ls hl => ?_)
                refine lp_sound_out F hA h0 tp rd dr fa ly wy cu rv bt rv1 rv2 rv3 rv4 rv5 rv6 rc1 rc2 rc3 rc4 rc5 rc6 i_5 i_12 j_13 lo hi (hK.sub [0, 1, 2, 3, 4, 5] rfl) (fun g1_20 g2_21  H locs hP hD hS ls hl => ?_) _ (fun _ => 0) (fun _ => 0) j_6 (by omega) (by omega) (by omega) (by omega) (Nat.lt_succ_self _) _ _ (hP.sub [0, 1, 8, 2, 3, 4, 5, 6, 7] rfl) (hD.sub [0, 1, 8, 2, 3, 4, 5, 6, 7] (by decide) rfl) hS ls (lv_sub hl [2, 1, 3, 5, 6, 7, 8, 0] rfl)
                refine lv_iconst (v := 1) hx hb dX9_sound_108 (by decide) ?_
                have hP9 := hP.sub (ws' := []) [] rfl
                have hD9 := hD.sub (ws' := []) [] (by decide) rfl
                have hK9 := hK.sub (tys' := []) [] rfl
                refine W.widen (k := 0) (n := 0) (by decide) (by decide) ?_
                exact W.zret (v := 1) hx hb hr rfl (fun t ht hW => ⟨⟨1, (), rfl, by simp only [ho_3, ho_10, c_15, c_16, c_17, c_18, c_19, or_false, false_or, or_true, true_or, not_true_eq_false, not_false_eq_true, ↓reduceIte], by rw [ht]; exact hP9, va_K.moved hW.alike hK9, hD9⟩, hS.F ht⟩) hS.2.2 dX9_sound_109
              · skip
                have c_19 := Int32.not_le.mp c_19
                refine lv_iconst (v := 0) hx hb dX9_sound_62 (by decide) ?_
                have hP9 := hP.sub (ws' := []) [] rfl
                have hD9 := hD.sub (ws' := []) [] (by decide) rfl
                have hK9 := hK.sub (tys' := []) [] rfl
                refine W.widen (k := 0) (n := 0) (by decide) (by decide) ?_
                exact W.zret (v := 0) hx hb hr rfl (fun t ht hW => ⟨⟨0, (), rfl, by simp only [ho_3, ho_10, c_15, c_16, c_17, c_18, c_19, or_false, false_or, or_true, true_or, not_true_eq_false, not_false_eq_true, ↓reduceIte], by rw [ht]; exact hP9, va_K.moved hW.alike hK9, hD9⟩, hS.F ht⟩) hS.2.2 dX9_sound_63
        · skip
          have c_16n : j_13 < j_6 := nb_le (by omega) (by omega) c_16
          have c_16 := Int32.not_le.mp c_16
          refine lv_iconst (v := 0) hx hb dX9_sound_41 (by decide) ?_
          have hP9 := hP.sub (ws' := []) [] rfl
          have hD9 := hD.sub (ws' := []) [] (by decide) rfl
          have hK9 := hK.sub (tys' := []) [] rfl
          refine W.widen (k := 0) (n := 0) (by decide) (by decide) ?_
          exact W.zret (v := 0) hx hb hr rfl (fun t ht hW => ⟨⟨0, (), rfl, by simp only [ho_3, ho_10, c_15, c_16, or_false, false_or, or_true, true_or, not_true_eq_false, not_false_eq_true, ↓reduceIte], by rw [ht]; exact hP9, va_K.moved hW.alike hK9, hD9⟩, hS.F ht⟩) hS.2.2 dX9_sound_42
