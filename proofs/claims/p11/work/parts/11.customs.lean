theorem kw_1_90 : Cond.fieldLink RX1 9 "IceFair$Customs" "USUAL" "[I" ∈ gw := gw_t1 (List.mem_of_getElem? (i := 90) (by decide +kernel)) (by decide +kernel)
theorem dX1_forget_0 : decode cX1_forget 0 = .ok (.getstatic 9, 3) := by decide +kernel
theorem dX1_forget_3 : decode cX1_forget 3 = .ok (.iconst 0, 1) := by decide +kernel
theorem dX1_forget_4 : decode cX1_forget 4 = .ok (.aload_n 0, 1) := by decide +kernel
theorem inG_X1 : ∀ w ∈ u_ws RX1 TX1 6, w ∈ gw := fun w h => gw_in ((by decide +kernel : ∀ w ∈ u_ws RX1 TX1 6, w ∈ lw_tbl) w h) ((by decide +kernel : ∀ w ∈ u_ws RX1 TX1 6, goodWord w = true) w h)
theorem kw_1_99 : Cond.fieldLink RX1 15 "IceFair$Customs" "numbers" "[I" ∈ gw := gw_t1 (List.mem_of_getElem? (i := 99) (by decide +kernel)) (by decide +kernel)
theorem dX1_forget_5 : decode cX1_forget 5 = .ok (.getfield 15, 3) := by decide +kernel
theorem dX1_forget_8 : decode cX1_forget 8 = .ok (.iconst 0, 1) := by decide +kernel
theorem dX1_forget_9 : decode cX1_forget 9 = .ok (.getstatic 9, 3) := by decide +kernel
theorem dX1_forget_12 : decode cX1_forget 12 = .ok (.arraylength, 1) := by decide +kernel
theorem kw_1_96 : Cond.methodLink RX1 30 arraycopyName ∈ gw := gw_t1 (List.mem_of_getElem? (i := 96) (by decide +kernel)) (by decide +kernel)
theorem kw_1_98 : Cond.native arraycopyName ∈ gw := gw_t1 (List.mem_of_getElem? (i := 98) (by decide +kernel)) (by decide +kernel)
theorem kw_1_97 : Cond.static arraycopyName ∈ gw := gw_t1 (List.mem_of_getElem? (i := 97) (by decide +kernel)) (by decide +kernel)
theorem kw_1_5 : Cond.initialized RJ10 ∈ gw := gw_t1 (List.mem_of_getElem? (i := 5) (by decide +kernel)) (by decide +kernel)
theorem dX1_forget_13 : decode cX1_forget 13 = .ok (.invokestatic 30, 3) := by decide +kernel
theorem dX1_forget_16 : decode cX1_forget 16 = .ok (.aload_n 0, 1) := by decide +kernel
theorem dX1_forget_17 : decode cX1_forget 17 = .ok (.iconst 0, 1) := by decide +kernel
theorem kw_1_106 : Cond.fieldLink RX1 36 "IceFair$Customs" "stairCount" "I" ∈ gw := gw_t1 (List.mem_of_getElem? (i := 106) (by decide +kernel)) (by decide +kernel)
theorem dX1_forget_18 : decode cX1_forget 18 = .ok (.putfield 36, 3) := by decide +kernel
theorem dX1_forget_21 : decode cX1_forget 21 = .ok (.aload_n 0, 1) := by decide +kernel
theorem dX1_forget_22 : decode cX1_forget 22 = .ok (.iconst 0, 1) := by decide +kernel
theorem kw_1_110 : Cond.fieldLink RX1 40 "IceFair$Customs" "told" "I" ∈ gw := gw_t1 (List.mem_of_getElem? (i := 110) (by decide +kernel)) (by decide +kernel)
theorem dX1_forget_23 : decode cX1_forget 23 = .ok (.putfield 40, 3) := by decide +kernel
theorem dX1_forget_26 : decode cX1_forget 26 = .ok (.return_, 1) := by decide +kernel
set_option maxHeartbeats 4000000 in
set_option maxRecDepth 100000 in
theorem c_Customs_forget (l : Launch) (D : va_G) (us : Nat) (h0 : Nat) (q1 : Nat) (q2 : Nat) (q3 : Nat) (q4 : Nat) (cy1 : ClassId) (cy2 : ClassId) (cy3 : ClassId) (cy4 : ClassId) (f1 : Nat → Int32) (f2 : Nat → Int32) (f3 : Nat → Int32) (f4 : Nat → Int32) (n1 : Int32) (n2 : Int32) : cV l yX1_forget (.code yX1_forget cX1_forget 1 none) ({ frames := 1, cells := 0, slots := 0, locals := 60 }) D [(cy1, .int), (cy2, .int), (cy3, .int), (cy4, .int)] [(h0, Sum.inr (1, [Value.ref q1, Value.ref q2, Value.ref q3, Value.ref q4, Value.int n1, Value.int n2])), (q1, Sum.inl (cy1, 8, Sum.inl f1)), (q2, Sum.inl (cy2, 4, Sum.inl f2)), (q3, Sum.inl (cy3, 4, Sum.inl f3)), (q4, Sum.inl (cy4, 4, Sum.inl f4))] (xU us) [Value.ref h0] (S := Unit) (fun _ => True) (fun _ => []) (fun _ => [(h0, Sum.inr (1, [Value.ref q1, Value.ref q2, Value.ref q3, Value.ref q4, Value.int 0, Value.int 0])), (q1, Sum.inl (cy1, 8, Sum.inl uF)), (q2, Sum.inl (cy2, 4, Sum.inl f2)), (q3, Sum.inl (cy3, 4, Sum.inl f3)), (q4, Sum.inl (cy4, 4, Sum.inl f4))]) := by
  intro sz
  refine Met.ofW (cc := cX1_forget) (maxL := 1) (ret := none) (by decide) rfl ?_
  intro p e s m args below meth c s₁ B hml hv
  obtain ⟨rfl, hsz, hP, hK, hD0, hX⟩ := hv
  have hx := B.exec
  have hb := B.bytes
  have hr := B.returns
  have hts0 := atoms_spec (ws := .code yX1_forget cX1_forget 1 none :: gw) B.pre
  have hts := fun (w : Cond) (h : w ∈ gw) => hts0 w (List.mem_cons_of_mem _ h)
  have hown : s.vm.findClass RX1 = some m.cls := findClass_of_methodNamed B.named
  have hlocks := B.notSynchronized
  have F : mFix p s m _ c cX1_forget 1 RX1 := ⟨hx, hb, hml, hown, hts⟩
  subst hsz
  have hD := hD0.self (sz := s.heap.size)
  generalize hAe : va_A [(h0, Sum.inr (1, [Value.ref q1, Value.ref q2, Value.ref q3, Value.ref q4, Value.int n1, Value.int n2])), (q1, Sum.inl (cy1, 8, Sum.inl f1)), (q2, Sum.inl (cy2, 4, Sum.inl f2)), (q3, Sum.inl (cy3, 4, Sum.inl f3)), (q4, Sum.inl (cy4, 4, Sum.inl f4))] s.heap.size = A at hD hX ⊢
  have hA : ∀ q : Nat, s.heap.size ≤ q → A q := fun q h => by rw [← hAe]; exact Or.inr h
  have hS : va_S A s.heap s.heap [] := va_S.rf
  have hl := lv_entry ([Value.ref h0]) (n := 1) (Nat.le_of_ble_eq_true rfl)
  rw [lg_entry_eq]
  generalize (lg_sl ([Value.ref h0]) ++ List.replicate (1 - (lg_sl ([Value.ref h0])).length) Slot.unset).toArray = ls at hl ⊢
  have hl : lv_has ls 1 [(0, Value.ref h0)] := hl
  have hP : va_P D vwCl [(h0, Sum.inr (1, [Value.ref q1, Value.ref q2, Value.ref q3, Value.ref q4, Value.int n1, Value.int n2])), (q1, Sum.inl (cy1, 8, Sum.inl f1)), (q2, Sum.inl (cy2, 4, Sum.inl f2)), (q3, Sum.inl (cy3, 4, Sum.inl f3)), (q4, Sum.inl (cy4, 4, Sum.inl f4))] s.heap := hP
  refine va_gets hx hb hX.1 hS hown (hts _ kw_1_90) (fun _ h9 => h9) dX1_forget_0 ?_
  refine lv_iconst (v := 0) hx hb dX1_forget_3 (by decide) ?_
  refine lv_aload_n hx hb dX1_forget_4 rfl (lv_at hl 0 rfl) ?_
  refine va_get (D := D) (ci := 1) (v := Value.ref q1) (C := RX1) (T := TX1) (N := 6) hx hb hts inG_X1 hown hK hP 0 rfl rfl 0 (by decide) (hts _ kw_1_99) (fun _ h9 => h9) rfl dX1_forget_5 ?_
  refine lv_iconst (v := 0) hx hb dX1_forget_8 (by decide) ?_
  refine va_gets hx hb hX.1 hS hown (hts _ kw_1_90) (fun _ h9 => h9) dX1_forget_9 ?_
  refine va_slen hx hb hX.2.1 hX.2.2.1 hX.2.2.2 hS dX1_forget_12 ?_
  refine lv_topi (fun z_1 ez_1 => ?_)
  obtain rfl : z_1 = (8 : Int32) := ez_1.trans (by decide)
  refine va_copyx hx hb (by rw [hml]; exact hl.1.symm) hown (hts _ kw_1_96) (hts _ kw_1_98) (hts _ kw_1_97) (hts _ kw_1_5) hK hP hD hS hX.2.1 hX.2.2.1 hX.2.2.2 1 0 rfl rfl (by decide) (by decide) (by decide) (by decide) (by decide) (Nat.le_of_ble_eq_true rfl) (Nat.le_of_ble_eq_true rfl) dX1_forget_13 (fun H locs hP hD hS => ?_)
  have hP : va_P D vwCl [(h0, Sum.inr (1, [Value.ref q1, Value.ref q2, Value.ref q3, Value.ref q4, Value.int n1, Value.int n2])), (q1, Sum.inl (cy1, 8, Sum.inl (va_cpy uF f1 0 0 8))), (q2, Sum.inl (cy2, 4, Sum.inl f2)), (q3, Sum.inl (cy3, 4, Sum.inl f3)), (q4, Sum.inl (cy4, 4, Sum.inl f4))] H := hP
  have hD : va_D A [(h0, Sum.inr (1, [Value.ref q1, Value.ref q2, Value.ref q3, Value.ref q4, Value.int n1, Value.int n2])), (q1, Sum.inl (cy1, 8, Sum.inl (va_cpy uF f1 0 0 8))), (q2, Sum.inl (cy2, 4, Sum.inl f2)), (q3, Sum.inl (cy3, 4, Sum.inl f3)), (q4, Sum.inl (cy4, 4, Sum.inl f4))] := hD
  have hP := va_P_arr hP 1 uF rfl (fun j hj => sb_cpy0 hj)
  have hP : va_P D vwCl [(h0, Sum.inr (1, [Value.ref q1, Value.ref q2, Value.ref q3, Value.ref q4, Value.int n1, Value.int n2])), (q1, Sum.inl (cy1, 8, Sum.inl uF)), (q2, Sum.inl (cy2, 4, Sum.inl f2)), (q3, Sum.inl (cy3, 4, Sum.inl f3)), (q4, Sum.inl (cy4, 4, Sum.inl f4))] H := hP
  have hD : va_D A [(h0, Sum.inr (1, [Value.ref q1, Value.ref q2, Value.ref q3, Value.ref q4, Value.int n1, Value.int n2])), (q1, Sum.inl (cy1, 8, Sum.inl uF)), (q2, Sum.inl (cy2, 4, Sum.inl f2)), (q3, Sum.inl (cy3, 4, Sum.inl f3)), (q4, Sum.inl (cy4, 4, Sum.inl f4))] := va_D_same hD rfl
  refine lv_aload_n hx hb dX1_forget_16 rfl (lv_at hl 0 rfl) ?_
  refine lv_iconst (v := 0) hx hb dX1_forget_17 (by decide) ?_
  refine va_put (D := D) (ci := 1) (v := Value.int 0) (ty := .int) (C := RX1) (T := TX1) (N := 6) hx hb hts inG_X1 tyX1 tyX1_ok nmX1 hown hK hP hD hS 0 rfl rfl 4 (by decide) (hts _ kw_1_106) (fun _ h9 => h9) rfl (by decide +kernel) rfl rfl (Nat.le_of_ble_eq_true rfl) dX1_forget_18 (fun H locs hP hD hS => ?_)
  have hP : va_P D vwCl [(h0, Sum.inr (1, [Value.ref q1, Value.ref q2, Value.ref q3, Value.ref q4, Value.int 0, Value.int n2])), (q1, Sum.inl (cy1, 8, Sum.inl uF)), (q2, Sum.inl (cy2, 4, Sum.inl f2)), (q3, Sum.inl (cy3, 4, Sum.inl f3)), (q4, Sum.inl (cy4, 4, Sum.inl f4))] H := hP
  have hD : va_D A [(h0, Sum.inr (1, [Value.ref q1, Value.ref q2, Value.ref q3, Value.ref q4, Value.int 0, Value.int n2])), (q1, Sum.inl (cy1, 8, Sum.inl uF)), (q2, Sum.inl (cy2, 4, Sum.inl f2)), (q3, Sum.inl (cy3, 4, Sum.inl f3)), (q4, Sum.inl (cy4, 4, Sum.inl f4))] := hD
  refine lv_aload_n hx hb dX1_forget_21 rfl (lv_at hl 0 rfl) ?_
  refine lv_iconst (v := 0) hx hb dX1_forget_22 (by decide) ?_
  refine va_put (D := D) (ci := 1) (v := Value.int 0) (ty := .int) (C := RX1) (T := TX1) (N := 6) hx hb hts inG_X1 tyX1 tyX1_ok nmX1 hown hK hP hD hS 0 rfl rfl 5 (by decide) (hts _ kw_1_110) (fun _ h9 => h9) rfl (by decide +kernel) rfl rfl (Nat.le_of_ble_eq_true rfl) dX1_forget_23 (fun H locs hP hD hS => ?_)
  have hP : va_P D vwCl [(h0, Sum.inr (1, [Value.ref q1, Value.ref q2, Value.ref q3, Value.ref q4, Value.int 0, Value.int 0])), (q1, Sum.inl (cy1, 8, Sum.inl uF)), (q2, Sum.inl (cy2, 4, Sum.inl f2)), (q3, Sum.inl (cy3, 4, Sum.inl f3)), (q4, Sum.inl (cy4, 4, Sum.inl f4))] H := hP
  have hD : va_D A [(h0, Sum.inr (1, [Value.ref q1, Value.ref q2, Value.ref q3, Value.ref q4, Value.int 0, Value.int 0])), (q1, Sum.inl (cy1, 8, Sum.inl uF)), (q2, Sum.inl (cy2, 4, Sum.inl f2)), (q3, Sum.inl (cy3, 4, Sum.inl f3)), (q4, Sum.inl (cy4, 4, Sum.inl f4))] := hD
  have hP9 := hP.sub (ws' := [(h0, Sum.inr (1, [Value.ref q1, Value.ref q2, Value.ref q3, Value.ref q4, Value.int 0, Value.int 0])), (q1, Sum.inl (cy1, 8, Sum.inl uF)), (q2, Sum.inl (cy2, 4, Sum.inl f2)), (q3, Sum.inl (cy3, 4, Sum.inl f3)), (q4, Sum.inl (cy4, 4, Sum.inl f4))]) [0, 1, 2, 3, 4] rfl
  have hD9 := hD.sub (ws' := [(h0, Sum.inr (1, [Value.ref q1, Value.ref q2, Value.ref q3, Value.ref q4, Value.int 0, Value.int 0])), (q1, Sum.inl (cy1, 8, Sum.inl uF)), (q2, Sum.inl (cy2, 4, Sum.inl f2)), (q3, Sum.inl (cy3, 4, Sum.inl f3)), (q4, Sum.inl (cy4, 4, Sum.inl f4))]) [0, 1, 2, 3, 4] (by decide) rfl
  have hK9 := hK.sub (tys' := []) [] rfl
  refine W.widen (k := 0) (n := 0) (by decide) (by decide) ?_
  exact W.vret hx hb hr (fun t ht hW => ⟨⟨(), rfl, trivial, by rw [ht]; exact hP9, va_K.moved hW.alike hK9, hD9⟩, hS.F ht⟩) hS.2.2 dX1_forget_26
theorem dX1_init_0 : decode cX1_init 0 = .ok (.aload_n 0, 1) := by decide +kernel
theorem kw_1_89 : Cond.methodLink RX1 3 Lib.objectInit ∈ gw := gw_t1 (List.mem_of_getElem? (i := 89) (by decide +kernel)) (by decide +kernel)
theorem dX1_init_1 : decode cX1_init 1 = .ok (.invokespecial 3, 3) := by decide +kernel
theorem dX1_init_4 : decode cX1_init 4 = .ok (.aload_n 0, 1) := by decide +kernel
theorem dX1_init_5 : decode cX1_init 5 = .ok (.getstatic 9, 3) := by decide +kernel
theorem dX1_init_8 : decode cX1_init 8 = .ok (.arraylength, 1) := by decide +kernel
theorem dX1_init_9 : decode cX1_init 9 = .ok (.newarray .int, 2) := by decide +kernel
theorem dX1_init_11 : decode cX1_init 11 = .ok (.putfield 15, 3) := by decide +kernel
theorem dX1_init_14 : decode cX1_init 14 = .ok (.aload_n 0, 1) := by decide +kernel
theorem dX1_init_15 : decode cX1_init 15 = .ok (.iconst 4, 1) := by decide +kernel
theorem dX1_init_16 : decode cX1_init 16 = .ok (.newarray .int, 2) := by decide +kernel
theorem kw_1_100 : Cond.fieldLink RX1 18 "IceFair$Customs" "stairX" "[I" ∈ gw := gw_t1 (List.mem_of_getElem? (i := 100) (by decide +kernel)) (by decide +kernel)
theorem dX1_init_18 : decode cX1_init 18 = .ok (.putfield 18, 3) := by decide +kernel
theorem dX1_init_21 : decode cX1_init 21 = .ok (.aload_n 0, 1) := by decide +kernel
theorem dX1_init_22 : decode cX1_init 22 = .ok (.iconst 4, 1) := by decide +kernel
theorem dX1_init_23 : decode cX1_init 23 = .ok (.newarray .int, 2) := by decide +kernel
theorem kw_1_102 : Cond.fieldLink RX1 21 "IceFair$Customs" "stairY" "[I" ∈ gw := gw_t1 (List.mem_of_getElem? (i := 102) (by decide +kernel)) (by decide +kernel)
theorem dX1_init_25 : decode cX1_init 25 = .ok (.putfield 21, 3) := by decide +kernel
theorem dX1_init_28 : decode cX1_init 28 = .ok (.aload_n 0, 1) := by decide +kernel
theorem dX1_init_29 : decode cX1_init 29 = .ok (.iconst 4, 1) := by decide +kernel
theorem dX1_init_30 : decode cX1_init 30 = .ok (.newarray .int, 2) := by decide +kernel
theorem kw_1_104 : Cond.fieldLink RX1 24 "IceFair$Customs" "stairMen" "[I" ∈ gw := gw_t1 (List.mem_of_getElem? (i := 104) (by decide +kernel)) (by decide +kernel)
theorem dX1_init_32 : decode cX1_init 32 = .ok (.putfield 24, 3) := by decide +kernel
theorem dX1_init_35 : decode cX1_init 35 = .ok (.aload_n 0, 1) := by decide +kernel
theorem kw_1_92 : Cond.methodLink RX1 27 yX1_forget ∈ gw := gw_t1 (List.mem_of_getElem? (i := 92) (by decide +kernel)) (by decide +kernel)
theorem kw_1_93 : Cond.instanceMethod yX1_forget ∈ gw := gw_t1 (List.mem_of_getElem? (i := 93) (by decide +kernel)) (by decide +kernel)
theorem kw_1_94 : Cond.selects RX1 yX1_forget yX1_forget ∈ gw := gw_t1 (List.mem_of_getElem? (i := 94) (by decide +kernel)) (by decide +kernel)
theorem kw_1_4 : Cond.initialized RX1 ∈ gw := gw_t1 (List.mem_of_getElem? (i := 4) (by decide +kernel)) (by decide +kernel)
theorem kw_1_95 : Cond.code yX1_forget cX1_forget 1 none ∈ gw := gw_t1 (List.mem_of_getElem? (i := 95) (by decide +kernel)) (by decide +kernel)
theorem gk_X1_27 : GoodIn gw (wsV RX1 27 RX1 yX1_forget (.code yX1_forget cX1_forget 1 none :: gw)) ∧ (yX1_forget.cls = RX1 ∧ yX1_forget.cls ≠ "java/lang/invoke/MethodHandle" ∧ yX1_forget.cls ≠ "java/lang/invoke/VarHandle" ∧ (parseMethodDescriptor yX1_forget.desc).map (fun d => d.parameters.length) = some 0) := ⟨gi_V kw_1_92 kw_1_93 kw_1_94 kw_1_4 kw_1_95, by decide +kernel⟩
theorem dX1_init_36 : decode cX1_init 36 = .ok (.invokevirtual 27, 3) := by decide +kernel
theorem dX1_init_39 : decode cX1_init 39 = .ok (.return_, 1) := by decide +kernel
set_option maxHeartbeats 4000000 in
set_option maxRecDepth 100000 in
theorem c_Customs_init (l : Launch) (D : va_G) (us : Nat) (h0 : Nat) : cV l yX1_init (.code yX1_init cX1_init 1 none) ({ frames := 2, cells := 4, slots := 20, locals := 80 }) D [] [(h0, Sum.inr (1, [Value.null, Value.null, Value.null, Value.null, Value.int 0, Value.int 0]))] (xU us) [Value.ref h0] (S := Nat × Nat × Nat × Nat × ClassId × ClassId × ClassId × ClassId) (fun u => match u with | (q1, q2, q3, q4, cy1, cy2, cy3, cy4) => True) (fun u => match u with | (q1, q2, q3, q4, cy1, cy2, cy3, cy4) => [(cy1, .int), (cy2, .int), (cy3, .int), (cy4, .int)]) (fun u => match u with | (q1, q2, q3, q4, cy1, cy2, cy3, cy4) => [(h0, Sum.inr (1, [Value.ref q1, Value.ref q2, Value.ref q3, Value.ref q4, Value.int 0, Value.int 0])), (q1, Sum.inl (cy1, 8, Sum.inl uF)), (q2, Sum.inl (cy2, 4, Sum.inl (fun _ => 0))), (q3, Sum.inl (cy3, 4, Sum.inl (fun _ => 0))), (q4, Sum.inl (cy4, 4, Sum.inl (fun _ => 0)))]) := by
  intro sz
  refine Met.ofW (cc := cX1_init) (maxL := 1) (ret := none) (by decide) rfl ?_
  intro p e s m args below meth c s₁ B hml hv
  obtain ⟨rfl, hsz, hP, hK, hD0, hX⟩ := hv
  have hx := B.exec
  have hb := B.bytes
  have hr := B.returns
  have hts0 := atoms_spec (ws := .code yX1_init cX1_init 1 none :: gw) B.pre
  have hts := fun (w : Cond) (h : w ∈ gw) => hts0 w (List.mem_cons_of_mem _ h)
  have hown : s.vm.findClass RX1 = some m.cls := findClass_of_methodNamed B.named
  have hlocks := B.notSynchronized
  have hin : meth.name = "<init>" := (name_of_methodNamed B.named B.method).1
  have F : mFix p s m _ c cX1_init 1 RX1 := ⟨hx, hb, hml, hown, hts⟩
  subst hsz
  have hD := hD0.self (sz := s.heap.size)
  generalize hAe : va_A [(h0, Sum.inr (1, [Value.null, Value.null, Value.null, Value.null, Value.int 0, Value.int 0]))] s.heap.size = A at hD hX ⊢
  have hA : ∀ q : Nat, s.heap.size ≤ q → A q := fun q h => by rw [← hAe]; exact Or.inr h
  have hS : va_S A s.heap s.heap [] := va_S.rf
  have hl := lv_entry ([Value.ref h0]) (n := 1) (Nat.le_of_ble_eq_true rfl)
  rw [lg_entry_eq]
  generalize (lg_sl ([Value.ref h0]) ++ List.replicate (1 - (lg_sl ([Value.ref h0])).length) Slot.unset).toArray = ls at hl ⊢
  have hl : lv_has ls 1 [(0, Value.ref h0)] := hl
  have hP : va_P D vwCl [(h0, Sum.inr (1, [Value.null, Value.null, Value.null, Value.null, Value.int 0, Value.int 0]))] s.heap := hP
  refine lv_aload_n hx hb dX1_init_0 rfl (lv_at hl 0 rfl) ?_
  refine W.objInit hx hb hown (hts _ kw_1_89) (hts _ kw_1_30) (hts _ kw_1_31) rfl (by rw [hml]; exact hl.1) rfl dX1_init_1 (Nat.le_of_ble_eq_true rfl) (Nat.le_of_ble_eq_true rfl) ?_
  refine W.eq (g2 := F0 m 4 ls []) rfl ?_
  refine lv_aload_n hx hb dX1_init_4 rfl (lv_at hl 0 rfl) ?_
  refine va_gets hx hb hX.1 hS hown (hts _ kw_1_90) (fun _ h9 => h9) dX1_init_5 ?_
  refine va_slen hx hb hX.2.1 hX.2.2.1 hX.2.2.2 hS dX1_init_8 ?_
  refine lv_topi (fun z_1 ez_1 => ?_)
  obtain rfl : z_1 = (8 : Int32) := ez_1.trans (by decide)
  refine va_newa (atype := .int) (a0 := (8, .inl (fun _ => 0))) (N' := 8) hx hb (hts _ kw_1_47) (ty := .int) rfl hK hP hD hS hA (fun _ => rfl) (by decide) (by decide) (by decide) (Nat.le_of_ble_eq_true rfl) (Nat.le_of_ble_eq_true rfl) dX1_init_9 (fun q_2 cy_3 H hK hP hD hS => ?_)
  have hK : va_K D vwCl [(cy_3, .int)] s := hK
  have hP : va_P D vwCl [(h0, Sum.inr (1, [Value.null, Value.null, Value.null, Value.null, Value.int 0, Value.int 0])), (q_2, Sum.inl (cy_3, 8, Sum.inl (fun _ => 0)))] H := hP
  have hD : va_D A [(h0, Sum.inr (1, [Value.null, Value.null, Value.null, Value.null, Value.int 0, Value.int 0])), (q_2, Sum.inl (cy_3, 8, Sum.inl (fun _ => 0)))] := hD
  refine W.widen (k := 1) (n := 8) (by decide) (by decide) ?_
  refine va_putF (D := D) (ci := 1) (v := Value.ref q_2) (ty := .array .int) (C := RX1) (T := TX1) (N := 6) hx hb hts inG_X1 tyX1 tyX1_ok nmX1 hown hK hP hD hS 0 rfl rfl 0 (by decide) (hts _ kw_1_99) (fun _ h9 => h9) rfl hin rfl (by decide +kernel) rfl rfl (Nat.le_of_ble_eq_true rfl) dX1_init_11 (fun H locs hP hD hS => ?_)
  have hP : va_P D vwCl [(h0, Sum.inr (1, [Value.ref q_2, Value.null, Value.null, Value.null, Value.int 0, Value.int 0])), (q_2, Sum.inl (cy_3, 8, Sum.inl (fun _ => 0)))] H := hP
  have hD : va_D A [(h0, Sum.inr (1, [Value.ref q_2, Value.null, Value.null, Value.null, Value.int 0, Value.int 0])), (q_2, Sum.inl (cy_3, 8, Sum.inl (fun _ => 0)))] := hD
  refine lv_aload_n hx hb dX1_init_14 rfl (lv_at hl 0 rfl) ?_
  refine lv_iconst (v := 4) hx hb dX1_init_15 (by decide) ?_
  refine va_newa (atype := .int) (a0 := (4, .inl (fun _ => 0))) (N' := 4) hx hb (hts _ kw_1_47) (ty := .int) rfl hK hP hD hS hA (fun _ => rfl) (by decide) (by decide) (by decide) (Nat.le_of_ble_eq_true rfl) (Nat.le_of_ble_eq_true rfl) dX1_init_16 (fun q_4 cy_5 H hK hP hD hS => ?_)
  have hK : va_K D vwCl [(cy_3, .int), (cy_5, .int)] s := hK
  have hP : va_P D vwCl [(h0, Sum.inr (1, [Value.ref q_2, Value.null, Value.null, Value.null, Value.int 0, Value.int 0])), (q_2, Sum.inl (cy_3, 8, Sum.inl (fun _ => 0))), (q_4, Sum.inl (cy_5, 4, Sum.inl (fun _ => 0)))] H := hP
  have hD : va_D A [(h0, Sum.inr (1, [Value.ref q_2, Value.null, Value.null, Value.null, Value.int 0, Value.int 0])), (q_2, Sum.inl (cy_3, 8, Sum.inl (fun _ => 0))), (q_4, Sum.inl (cy_5, 4, Sum.inl (fun _ => 0)))] := hD
  refine W.widen (k := 2) (n := 12) (by decide) (by decide) ?_
  refine va_putF (D := D) (ci := 1) (v := Value.ref q_4) (ty := .array .int) (C := RX1) (T := TX1) (N := 6) hx hb hts inG_X1 tyX1 tyX1_ok nmX1 hown hK hP hD hS 0 rfl rfl 1 (by decide) (hts _ kw_1_100) (fun _ h9 => h9) rfl hin rfl (by decide +kernel) rfl rfl (Nat.le_of_ble_eq_true rfl) dX1_init_18 (fun H locs hP hD hS => ?_)
  have hP : va_P D vwCl [(h0, Sum.inr (1, [Value.ref q_2, Value.ref q_4, Value.null, Value.null, Value.int 0, Value.int 0])), (q_2, Sum.inl (cy_3, 8, Sum.inl (fun _ => 0))), (q_4, Sum.inl (cy_5, 4, Sum.inl (fun _ => 0)))] H := hP
  have hD : va_D A [(h0, Sum.inr (1, [Value.ref q_2, Value.ref q_4, Value.null, Value.null, Value.int 0, Value.int 0])), (q_2, Sum.inl (cy_3, 8, Sum.inl (fun _ => 0))), (q_4, Sum.inl (cy_5, 4, Sum.inl (fun _ => 0)))] := hD
  refine lv_aload_n hx hb dX1_init_21 rfl (lv_at hl 0 rfl) ?_
  refine lv_iconst (v := 4) hx hb dX1_init_22 (by decide) ?_
  refine va_newa (atype := .int) (a0 := (4, .inl (fun _ => 0))) (N' := 4) hx hb (hts _ kw_1_47) (ty := .int) rfl hK hP hD hS hA (fun _ => rfl) (by decide) (by decide) (by decide) (Nat.le_of_ble_eq_true rfl) (Nat.le_of_ble_eq_true rfl) dX1_init_23 (fun q_6 cy_7 H hK hP hD hS => ?_)
  have hK : va_K D vwCl [(cy_3, .int), (cy_5, .int), (cy_7, .int)] s := hK
  have hP : va_P D vwCl [(h0, Sum.inr (1, [Value.ref q_2, Value.ref q_4, Value.null, Value.null, Value.int 0, Value.int 0])), (q_2, Sum.inl (cy_3, 8, Sum.inl (fun _ => 0))), (q_4, Sum.inl (cy_5, 4, Sum.inl (fun _ => 0))), (q_6, Sum.inl (cy_7, 4, Sum.inl (fun _ => 0)))] H := hP
  have hD : va_D A [(h0, Sum.inr (1, [Value.ref q_2, Value.ref q_4, Value.null, Value.null, Value.int 0, Value.int 0])), (q_2, Sum.inl (cy_3, 8, Sum.inl (fun _ => 0))), (q_4, Sum.inl (cy_5, 4, Sum.inl (fun _ => 0))), (q_6, Sum.inl (cy_7, 4, Sum.inl (fun _ => 0)))] := hD
  refine W.widen (k := 3) (n := 16) (by decide) (by decide) ?_
  refine va_putF (D := D) (ci := 1) (v := Value.ref q_6) (ty := .array .int) (C := RX1) (T := TX1) (N := 6) hx hb hts inG_X1 tyX1 tyX1_ok nmX1 hown hK hP hD hS 0 rfl rfl 2 (by decide) (hts _ kw_1_102) (fun _ h9 => h9) rfl hin rfl (by decide +kernel) rfl rfl (Nat.le_of_ble_eq_true rfl) dX1_init_25 (fun H locs hP hD hS => ?_)
  have hP : va_P D vwCl [(h0, Sum.inr (1, [Value.ref q_2, Value.ref q_4, Value.ref q_6, Value.null, Value.int 0, Value.int 0])), (q_2, Sum.inl (cy_3, 8, Sum.inl (fun _ => 0))), (q_4, Sum.inl (cy_5, 4, Sum.inl (fun _ => 0))), (q_6, Sum.inl (cy_7, 4, Sum.inl (fun _ => 0)))] H := hP
  have hD : va_D A [(h0, Sum.inr (1, [Value.ref q_2, Value.ref q_4, Value.ref q_6, Value.null, Value.int 0, Value.int 0])), (q_2, Sum.inl (cy_3, 8, Sum.inl (fun _ => 0))), (q_4, Sum.inl (cy_5, 4, Sum.inl (fun _ => 0))), (q_6, Sum.inl (cy_7, 4, Sum.inl (fun _ => 0)))] := hD
  refine lv_aload_n hx hb dX1_init_28 rfl (lv_at hl 0 rfl) ?_
  refine lv_iconst (v := 4) hx hb dX1_init_29 (by decide) ?_
  refine va_newa (atype := .int) (a0 := (4, .inl (fun _ => 0))) (N' := 4) hx hb (hts _ kw_1_47) (ty := .int) rfl hK hP hD hS hA (fun _ => rfl) (by decide) (by decide) (by decide) (Nat.le_of_ble_eq_true rfl) (Nat.le_of_ble_eq_true rfl) dX1_init_30 (fun q_8 cy_9 H hK hP hD hS => ?_)
  have hK : va_K D vwCl [(cy_3, .int), (cy_5, .int), (cy_7, .int), (cy_9, .int)] s := hK
  have hP : va_P D vwCl [(h0, Sum.inr (1, [Value.ref q_2, Value.ref q_4, Value.ref q_6, Value.null, Value.int 0, Value.int 0])), (q_2, Sum.inl (cy_3, 8, Sum.inl (fun _ => 0))), (q_4, Sum.inl (cy_5, 4, Sum.inl (fun _ => 0))), (q_6, Sum.inl (cy_7, 4, Sum.inl (fun _ => 0))), (q_8, Sum.inl (cy_9, 4, Sum.inl (fun _ => 0)))] H := hP
  have hD : va_D A [(h0, Sum.inr (1, [Value.ref q_2, Value.ref q_4, Value.ref q_6, Value.null, Value.int 0, Value.int 0])), (q_2, Sum.inl (cy_3, 8, Sum.inl (fun _ => 0))), (q_4, Sum.inl (cy_5, 4, Sum.inl (fun _ => 0))), (q_6, Sum.inl (cy_7, 4, Sum.inl (fun _ => 0))), (q_8, Sum.inl (cy_9, 4, Sum.inl (fun _ => 0)))] := hD
  refine W.widen (k := 4) (n := 20) (by decide) (by decide) ?_
  refine va_putF (D := D) (ci := 1) (v := Value.ref q_8) (ty := .array .int) (C := RX1) (T := TX1) (N := 6) hx hb hts inG_X1 tyX1 tyX1_ok nmX1 hown hK hP hD hS 0 rfl rfl 3 (by decide) (hts _ kw_1_104) (fun _ h9 => h9) rfl hin rfl (by decide +kernel) rfl rfl (Nat.le_of_ble_eq_true rfl) dX1_init_32 (fun H locs hP hD hS => ?_)
  have hP : va_P D vwCl [(h0, Sum.inr (1, [Value.ref q_2, Value.ref q_4, Value.ref q_6, Value.ref q_8, Value.int 0, Value.int 0])), (q_2, Sum.inl (cy_3, 8, Sum.inl (fun _ => 0))), (q_4, Sum.inl (cy_5, 4, Sum.inl (fun _ => 0))), (q_6, Sum.inl (cy_7, 4, Sum.inl (fun _ => 0))), (q_8, Sum.inl (cy_9, 4, Sum.inl (fun _ => 0)))] H := hP
  have hD : va_D A [(h0, Sum.inr (1, [Value.ref q_2, Value.ref q_4, Value.ref q_6, Value.ref q_8, Value.int 0, Value.int 0])), (q_2, Sum.inl (cy_3, 8, Sum.inl (fun _ => 0))), (q_4, Sum.inl (cy_5, 4, Sum.inl (fun _ => 0))), (q_6, Sum.inl (cy_7, 4, Sum.inl (fun _ => 0))), (q_8, Sum.inl (cy_9, 4, Sum.inl (fun _ => 0)))] := hD
  refine lv_aload_n hx hb dX1_init_35 rfl (lv_at hl 0 rfl) ?_
  refine mc_Vv (rest := []) (wr := []) F hK hP hD hS hA (c_Customs_forget l D us h0 q_2 q_4 q_6 q_8 cy_3 cy_5 cy_7 cy_9 (fun _ => 0) (fun _ => 0) (fun _ => 0) (fun _ => 0) 0 0 ) ⟨gk_X1_27.1, gk_X1_27.2, Nat.le_of_ble_eq_true rfl, Nat.le_of_ble_eq_true rfl⟩ [0, 1, 2, 3, 4] [] [0, 1, 2, 3] ⟨rfl, rfl, rfl, rfl, by decide⟩ rfl (xU_move us) (xU_use hX hS (va_free hD hS hA [0, 1, 2, 3, 4] rfl)) 0 rfl rfl rfl hl.1 rfl (Nat.le_of_ble_eq_true rfl) dX1_init_36 ⟨Nat.le_of_ble_eq_true rfl, Nat.le_of_ble_eq_true rfl⟩ (fun _ H locs hw hK1 hP hD hS => ?_)
  have hP : va_P D vwCl [(h0, Sum.inr (1, [Value.ref q_2, Value.ref q_4, Value.ref q_6, Value.ref q_8, Value.int 0, Value.int 0])), (q_2, Sum.inl (cy_3, 8, Sum.inl uF)), (q_4, Sum.inl (cy_5, 4, Sum.inl ((fun _ => 0)))), (q_6, Sum.inl (cy_7, 4, Sum.inl ((fun _ => 0)))), (q_8, Sum.inl (cy_9, 4, Sum.inl ((fun _ => 0))))] H := hP
  have hD : va_D A [(h0, Sum.inr (1, [Value.ref q_2, Value.ref q_4, Value.ref q_6, Value.ref q_8, Value.int 0, Value.int 0])), (q_2, Sum.inl (cy_3, 8, Sum.inl uF)), (q_4, Sum.inl (cy_5, 4, Sum.inl ((fun _ => 0)))), (q_6, Sum.inl (cy_7, 4, Sum.inl ((fun _ => 0)))), (q_8, Sum.inl (cy_9, 4, Sum.inl ((fun _ => 0))))] := hD
  have hP9 := hP.sub (ws' := [(h0, Sum.inr (1, [Value.ref q_2, Value.ref q_4, Value.ref q_6, Value.ref q_8, Value.int 0, Value.int 0])), (q_2, Sum.inl (cy_3, 8, Sum.inl uF)), (q_4, Sum.inl (cy_5, 4, Sum.inl (fun _ => 0))), (q_6, Sum.inl (cy_7, 4, Sum.inl (fun _ => 0))), (q_8, Sum.inl (cy_9, 4, Sum.inl (fun _ => 0)))]) [0, 1, 2, 3, 4] rfl
  have hD9 := hD.sub (ws' := [(h0, Sum.inr (1, [Value.ref q_2, Value.ref q_4, Value.ref q_6, Value.ref q_8, Value.int 0, Value.int 0])), (q_2, Sum.inl (cy_3, 8, Sum.inl uF)), (q_4, Sum.inl (cy_5, 4, Sum.inl (fun _ => 0))), (q_6, Sum.inl (cy_7, 4, Sum.inl (fun _ => 0))), (q_8, Sum.inl (cy_9, 4, Sum.inl (fun _ => 0)))]) [0, 1, 2, 3, 4] (by decide) rfl
  have hK9 := hK.sub (tys' := [(cy_3, .int), (cy_5, .int), (cy_7, .int), (cy_9, .int)]) [0, 1, 2, 3] rfl
  refine W.widen (k := 4) (n := 20) (by decide) (by decide) ?_
  exact W.vret hx hb hr (fun t ht hW => ⟨⟨(q_2, q_4, q_6, q_8, cy_3, cy_5, cy_7, cy_9), rfl, trivial, by rw [ht]; exact hP9, va_K.moved hW.alike hK9, hD9⟩, hS.F ht⟩) hS.2.2 dX1_init_39
