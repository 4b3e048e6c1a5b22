theorem dX1_bear_0 : decode cX1_bear 0 = .ok (.aload_n 0, 1) := by decide +kernel
theorem dX1_bear_1 : decode cX1_bear 1 = .ok (.getfield 15, 3) := by decide +kernel
theorem dX1_bear_4 : decode cX1_bear 4 = .ok (.iconst 0, 1) := by decide +kernel
theorem dX1_bear_5 : decode cX1_bear 5 = .ok (.iaload, 1) := by decide +kernel
theorem dX1_bear_6 : decode cX1_bear 6 = .ok (.ireturn, 1) := by decide +kernel
set_option maxHeartbeats 4000000 in
set_option maxRecDepth 100000 in
theorem c_cu_bear (l : Launch) (D : va_G) (h0 : Nat) (q1 : Nat) (q2 : Nat) (q3 : Nat) (q4 : Nat) (cy1 : ClassId) (f1 : Nat → Int32) (n1 : Int32) (n2 : Int32) : cI l yX1_bear (.code yX1_bear cX1_bear 1 (some .int)) ({ frames := 0, cells := 0, slots := 0, locals := 0 }) D [(cy1, .int)] [(h0, Sum.inr (1, [Value.ref q1, Value.ref q2, Value.ref q3, Value.ref q4, Value.int n1, Value.int n2])), (q1, Sum.inl (cy1, 8, Sum.inl f1))] xT [Value.ref h0] (S := Unit) (fun r _ => r = f1 0) (fun _ => []) (fun _ => [(h0, Sum.inr (1, [Value.ref q1, Value.ref q2, Value.ref q3, Value.ref q4, Value.int n1, Value.int n2])), (q1, Sum.inl (cy1, 8, Sum.inl f1))]) := by
  intro sz
  refine Met.ofW (cc := cX1_bear) (maxL := 1) (ret := (some .int)) (by decide) rfl ?_
  intro p e s m args below meth c s₁ B hml hv
  obtain ⟨rfl, hsz, hP, hK, hD0, hX⟩ := hv
  have hx := B.exec
  have hb := B.bytes
  have hr := B.returns
  have hts0 := atoms_spec (ws := .code yX1_bear cX1_bear 1 (some .int) :: gw) B.pre
  have hts := fun (w : Cond) (h : w ∈ gw) => hts0 w (List.mem_cons_of_mem _ h)
  have hown : s.vm.findClass RX1 = some m.cls := findClass_of_methodNamed B.named
  have hlocks := B.notSynchronized
  have F : mFix p s m _ c cX1_bear 1 RX1 := ⟨hx, hb, hml, hown, hts⟩
  subst hsz
  have hD := hD0.self (sz := s.heap.size)
  generalize hAe : va_A [(h0, Sum.inr (1, [Value.ref q1, Value.ref q2, Value.ref q3, Value.ref q4, Value.int n1, Value.int n2])), (q1, Sum.inl (cy1, 8, Sum.inl f1))] s.heap.size = A at hD hX ⊢
  have hA : ∀ q : Nat, s.heap.size ≤ q → A q := fun q h => by rw [← hAe]; exact Or.inr h
  have hS : va_S A s.heap s.heap [] := va_S.rf
  have hl := lv_entry ([Value.ref h0]) (n := 1) (Nat.le_of_ble_eq_true rfl)
  rw [lg_entry_eq]
  generalize (lg_sl ([Value.ref h0]) ++ List.replicate (1 - (lg_sl ([Value.ref h0])).length) Slot.unset).toArray = ls at hl ⊢
  have hl : lv_has ls 1 [(0, Value.ref h0)] := hl
  have hP : va_P D vwCl [(h0, Sum.inr (1, [Value.ref q1, Value.ref q2, Value.ref q3, Value.ref q4, Value.int n1, Value.int n2])), (q1, Sum.inl (cy1, 8, Sum.inl f1))] s.heap := hP
  refine lv_aload_n hx hb dX1_bear_0 rfl (lv_at hl 0 rfl) ?_
  refine va_get (D := D) (ci := 1) (v := Value.ref q1) (C := RX1) (T := TX1) (N := 6) hx hb hts inG_X1 hown hK hP 0 rfl rfl 0 (by decide) (hts _ kw_1_99) (fun _ h9 => h9) rfl dX1_bear_1 ?_
  refine lv_iconst (v := 0) hx hb dX1_bear_4 (by decide) ?_
  refine m_iald hx hb hK hP 1 0 rfl rfl 0 rfl (by decide) (by decide) dX1_bear_5 ?_
  refine lv_topi (fun v_1 ev_1 => ?_)
  have hP9 := hP.sub (ws' := [(h0, Sum.inr (1, [Value.ref q1, Value.ref q2, Value.ref q3, Value.ref q4, Value.int n1, Value.int n2])), (q1, Sum.inl (cy1, 8, Sum.inl f1))]) [0, 1] rfl
  have hD9 := hD.sub (ws' := [(h0, Sum.inr (1, [Value.ref q1, Value.ref q2, Value.ref q3, Value.ref q4, Value.int n1, Value.int n2])), (q1, Sum.inl (cy1, 8, Sum.inl f1))]) [0, 1] (by decide) rfl
  have hK9 := hK.sub (tys' := []) [] rfl
  refine W.widen (k := 0) (n := 0) (by decide) (by decide) ?_
  exact W.iret (v := v_1) hx hb hr (fun t ht hW => ⟨⟨v_1, (), rfl, by simp only [ev_1], by rw [ht]; exact hP9, va_K.moved hW.alike hK9, hD9⟩, hS.F ht⟩) hS.2.2 dX1_bear_6
theorem dX1_meltOn_0 : decode cX1_meltOn 0 = .ok (.aload_n 0, 1) := by decide +kernel
theorem dX1_meltOn_1 : decode cX1_meltOn 1 = .ok (.getfield 15, 3) := by decide +kernel
theorem dX1_meltOn_4 : decode cX1_meltOn 4 = .ok (.iconst 1, 1) := by decide +kernel
theorem dX1_meltOn_5 : decode cX1_meltOn 5 = .ok (.iaload, 1) := by decide +kernel
theorem dX1_meltOn_6 : decode cX1_meltOn 6 = .ok (.ireturn, 1) := by decide +kernel
set_option maxHeartbeats 4000000 in
set_option maxRecDepth 100000 in
theorem c_cu_meltOn (l : Launch) (D : va_G) (h0 : Nat) (q1 : Nat) (q2 : Nat) (q3 : Nat) (q4 : Nat) (cy1 : ClassId) (f1 : Nat → Int32) (n1 : Int32) (n2 : Int32) : cI l yX1_meltOn (.code yX1_meltOn cX1_meltOn 1 (some .int)) ({ frames := 0, cells := 0, slots := 0, locals := 0 }) D [(cy1, .int)] [(h0, Sum.inr (1, [Value.ref q1, Value.ref q2, Value.ref q3, Value.ref q4, Value.int n1, Value.int n2])), (q1, Sum.inl (cy1, 8, Sum.inl f1))] xT [Value.ref h0] (S := Unit) (fun r _ => r = f1 1) (fun _ => []) (fun _ => [(h0, Sum.inr (1, [Value.ref q1, Value.ref q2, Value.ref q3, Value.ref q4, Value.int n1, Value.int n2])), (q1, Sum.inl (cy1, 8, Sum.inl f1))]) := by
  intro sz
  refine Met.ofW (cc := cX1_meltOn) (maxL := 1) (ret := (some .int)) (by decide) rfl ?_
  intro p e s m args below meth c s₁ B hml hv
  obtain ⟨rfl, hsz, hP, hK, hD0, hX⟩ := hv
  have hx := B.exec
  have hb := B.bytes
  have hr := B.returns
  have hts0 := atoms_spec (ws := .code yX1_meltOn cX1_meltOn 1 (some .int) :: gw) B.pre
  have hts := fun (w : Cond) (h : w ∈ gw) => hts0 w (List.mem_cons_of_mem _ h)
  have hown : s.vm.findClass RX1 = some m.cls := findClass_of_methodNamed B.named
  have hlocks := B.notSynchronized
  have F : mFix p s m _ c cX1_meltOn 1 RX1 := ⟨hx, hb, hml, hown, hts⟩
  subst hsz
  have hD := hD0.self (sz := s.heap.size)
  generalize hAe : va_A [(h0, Sum.inr (1, [Value.ref q1, Value.ref q2, Value.ref q3, Value.ref q4, Value.int n1, Value.int n2])), (q1, Sum.inl (cy1, 8, Sum.inl f1))] s.heap.size = A at hD hX ⊢
  have hA : ∀ q : Nat, s.heap.size ≤ q → A q := fun q h => by rw [← hAe]; exact Or.inr h
  have hS : va_S A s.heap s.heap [] := va_S.rf
  have hl := lv_entry ([Value.ref h0]) (n := 1) (Nat.le_of_ble_eq_true rfl)
  rw [lg_entry_eq]
  generalize (lg_sl ([Value.ref h0]) ++ List.replicate (1 - (lg_sl ([Value.ref h0])).length) Slot.unset).toArray = ls at hl ⊢
  have hl : lv_has ls 1 [(0, Value.ref h0)] := hl
  have hP : va_P D vwCl [(h0, Sum.inr (1, [Value.ref q1, Value.ref q2, Value.ref q3, Value.ref q4, Value.int n1, Value.int n2])), (q1, Sum.inl (cy1, 8, Sum.inl f1))] s.heap := hP
  refine lv_aload_n hx hb dX1_meltOn_0 rfl (lv_at hl 0 rfl) ?_
  refine va_get (D := D) (ci := 1) (v := Value.ref q1) (C := RX1) (T := TX1) (N := 6) hx hb hts inG_X1 hown hK hP 0 rfl rfl 0 (by decide) (hts _ kw_1_99) (fun _ h9 => h9) rfl dX1_meltOn_1 ?_
  refine lv_iconst (v := 1) hx hb dX1_meltOn_4 (by decide) ?_
  refine m_iald hx hb hK hP 1 0 rfl rfl 1 rfl (by decide) (by decide) dX1_meltOn_5 ?_
  refine lv_topi (fun v_1 ev_1 => ?_)
  have hP9 := hP.sub (ws' := [(h0, Sum.inr (1, [Value.ref q1, Value.ref q2, Value.ref q3, Value.ref q4, Value.int n1, Value.int n2])), (q1, Sum.inl (cy1, 8, Sum.inl f1))]) [0, 1] rfl
  have hD9 := hD.sub (ws' := [(h0, Sum.inr (1, [Value.ref q1, Value.ref q2, Value.ref q3, Value.ref q4, Value.int n1, Value.int n2])), (q1, Sum.inl (cy1, 8, Sum.inl f1))]) [0, 1] (by decide) rfl
  have hK9 := hK.sub (tys' := []) [] rfl
  refine W.widen (k := 0) (n := 0) (by decide) (by decide) ?_
  exact W.iret (v := v_1) hx hb hr (fun t ht hW => ⟨⟨v_1, (), rfl, by simp only [ev_1], by rw [ht]; exact hP9, va_K.moved hW.alike hK9, hD9⟩, hS.F ht⟩) hS.2.2 dX1_meltOn_6
theorem dX1_meltBeside_0 : decode cX1_meltBeside 0 = .ok (.aload_n 0, 1) := by decide +kernel
theorem dX1_meltBeside_1 : decode cX1_meltBeside 1 = .ok (.getfield 15, 3) := by decide +kernel
theorem dX1_meltBeside_4 : decode cX1_meltBeside 4 = .ok (.iconst 2, 1) := by decide +kernel
theorem dX1_meltBeside_5 : decode cX1_meltBeside 5 = .ok (.iaload, 1) := by decide +kernel
theorem dX1_meltBeside_6 : decode cX1_meltBeside 6 = .ok (.ireturn, 1) := by decide +kernel
set_option maxHeartbeats 4000000 in
set_option maxRecDepth 100000 in
theorem c_cu_meltBeside (l : Launch) (D : va_G) (h0 : Nat) (q1 : Nat) (q2 : Nat) (q3 : Nat) (q4 : Nat) (cy1 : ClassId) (f1 : Nat → Int32) (n1 : Int32) (n2 : Int32) : cI l yX1_meltBeside (.code yX1_meltBeside cX1_meltBeside 1 (some .int)) ({ frames := 0, cells := 0, slots := 0, locals := 0 }) D [(cy1, .int)] [(h0, Sum.inr (1, [Value.ref q1, Value.ref q2, Value.ref q3, Value.ref q4, Value.int n1, Value.int n2])), (q1, Sum.inl (cy1, 8, Sum.inl f1))] xT [Value.ref h0] (S := Unit) (fun r _ => r = f1 2) (fun _ => []) (fun _ => [(h0, Sum.inr (1, [Value.ref q1, Value.ref q2, Value.ref q3, Value.ref q4, Value.int n1, Value.int n2])), (q1, Sum.inl (cy1, 8, Sum.inl f1))]) := by
  intro sz
  refine Met.ofW (cc := cX1_meltBeside) (maxL := 1) (ret := (some .int)) (by decide) rfl ?_
  intro p e s m args below meth c s₁ B hml hv
  obtain ⟨rfl, hsz, hP, hK, hD0, hX⟩ := hv
  have hx := B.exec
  have hb := B.bytes
  have hr := B.returns
  have hts0 := atoms_spec (ws := .code yX1_meltBeside cX1_meltBeside 1 (some .int) :: gw) B.pre
  have hts := fun (w : Cond) (h : w ∈ gw) => hts0 w (List.mem_cons_of_mem _ h)
  have hown : s.vm.findClass RX1 = some m.cls := findClass_of_methodNamed B.named
  have hlocks := B.notSynchronized
  have F : mFix p s m _ c cX1_meltBeside 1 RX1 := ⟨hx, hb, hml, hown, hts⟩
  subst hsz
  have hD := hD0.self (sz := s.heap.size)
  generalize hAe : va_A [(h0, Sum.inr (1, [Value.ref q1, Value.ref q2, Value.ref q3, Value.ref q4, Value.int n1, Value.int n2])), (q1, Sum.inl (cy1, 8, Sum.inl f1))] s.heap.size = A at hD hX ⊢
  have hA : ∀ q : Nat, s.heap.size ≤ q → A q := fun q h => by rw [← hAe]; exact Or.inr h
  have hS : va_S A s.heap s.heap [] := va_S.rf
  have hl := lv_entry ([Value.ref h0]) (n := 1) (Nat.le_of_ble_eq_true rfl)
  rw [lg_entry_eq]
  generalize (lg_sl ([Value.ref h0]) ++ List.replicate (1 - (lg_sl ([Value.ref h0])).length) Slot.unset).toArray = ls at hl ⊢
  have hl : lv_has ls 1 [(0, Value.ref h0)] := hl
  have hP : va_P D vwCl [(h0, Sum.inr (1, [Value.ref q1, Value.ref q2, Value.ref q3, Value.ref q4, Value.int n1, Value.int n2])), (q1, Sum.inl (cy1, 8, Sum.inl f1))] s.heap := hP
  refine lv_aload_n hx hb dX1_meltBeside_0 rfl (lv_at hl 0 rfl) ?_
  refine va_get (D := D) (ci := 1) (v := Value.ref q1) (C := RX1) (T := TX1) (N := 6) hx hb hts inG_X1 hown hK hP 0 rfl rfl 0 (by decide) (hts _ kw_1_99) (fun _ h9 => h9) rfl dX1_meltBeside_1 ?_
  refine lv_iconst (v := 2) hx hb dX1_meltBeside_4 (by decide) ?_
  refine m_iald hx hb hK hP 1 0 rfl rfl 2 rfl (by decide) (by decide) dX1_meltBeside_5 ?_
  refine lv_topi (fun v_1 ev_1 => ?_)
  have hP9 := hP.sub (ws' := [(h0, Sum.inr (1, [Value.ref q1, Value.ref q2, Value.ref q3, Value.ref q4, Value.int n1, Value.int n2])), (q1, Sum.inl (cy1, 8, Sum.inl f1))]) [0, 1] rfl
  have hD9 := hD.sub (ws' := [(h0, Sum.inr (1, [Value.ref q1, Value.ref q2, Value.ref q3, Value.ref q4, Value.int n1, Value.int n2])), (q1, Sum.inl (cy1, 8, Sum.inl f1))]) [0, 1] (by decide) rfl
  have hK9 := hK.sub (tys' := []) [] rfl
  refine W.widen (k := 0) (n := 0) (by decide) (by decide) ?_
  exact W.iret (v := v_1) hx hb hr (fun t ht hW => ⟨⟨v_1, (), rfl, by simp only [ev_1], by rw [ht]; exact hP9, va_K.moved hW.alike hK9, hD9⟩, hS.F ht⟩) hS.2.2 dX1_meltBeside_6
theorem dX1_apart_0 : decode cX1_apart 0 = .ok (.aload_n 0, 1) := by decide +kernel
theorem dX1_apart_1 : decode cX1_apart 1 = .ok (.getfield 15, 3) := by decide +kernel
theorem dX1_apart_4 : decode cX1_apart 4 = .ok (.iconst 3, 1) := by decide +kernel
theorem dX1_apart_5 : decode cX1_apart 5 = .ok (.iaload, 1) := by decide +kernel
theorem dX1_apart_6 : decode cX1_apart 6 = .ok (.ireturn, 1) := by decide +kernel
theorem dX1_near_0 : decode cX1_near 0 = .ok (.aload_n 0, 1) := by decide +kernel
theorem dX1_near_1 : decode cX1_near 1 = .ok (.getfield 15, 3) := by decide +kernel
theorem dX1_near_4 : decode cX1_near 4 = .ok (.iconst 4, 1) := by decide +kernel
theorem dX1_near_5 : decode cX1_near 5 = .ok (.iaload, 1) := by decide +kernel
theorem dX1_near_6 : decode cX1_near 6 = .ok (.ireturn, 1) := by decide +kernel
set_option maxHeartbeats 4000000 in
set_option maxRecDepth 100000 in
theorem c_cu_near (l : Launch) (D : va_G) (h0 : Nat) (q1 : Nat) (q2 : Nat) (q3 : Nat) (q4 : Nat) (cy1 : ClassId) (f1 : Nat → Int32) (n1 : Int32) (n2 : Int32) : cI l yX1_near (.code yX1_near cX1_near 1 (some .int)) ({ frames := 0, cells := 0, slots := 0, locals := 0 }) D [(cy1, .int)] [(h0, Sum.inr (1, [Value.ref q1, Value.ref q2, Value.ref q3, Value.ref q4, Value.int n1, Value.int n2])), (q1, Sum.inl (cy1, 8, Sum.inl f1))] xT [Value.ref h0] (S := Unit) (fun r _ => r = f1 4) (fun _ => []) (fun _ => [(h0, Sum.inr (1, [Value.ref q1, Value.ref q2, Value.ref q3, Value.ref q4, Value.int n1, Value.int n2])), (q1, Sum.inl (cy1, 8, Sum.inl f1))]) := by
  intro sz
  refine Met.ofW (cc := cX1_near) (maxL := 1) (ret := (some .int)) (by decide) rfl ?_
  intro p e s m args below meth c s₁ B hml hv
  obtain ⟨rfl, hsz, hP, hK, hD0, hX⟩ := hv
  have hx := B.exec
  have hb := B.bytes
  have hr := B.returns
  have hts0 := atoms_spec (ws := .code yX1_near cX1_near 1 (some .int) :: gw) B.pre
  have hts := fun (w : Cond) (h : w ∈ gw) => hts0 w (List.mem_cons_of_mem _ h)
  have hown : s.vm.findClass RX1 = some m.cls := findClass_of_methodNamed B.named
  have hlocks := B.notSynchronized
  have F : mFix p s m _ c cX1_near 1 RX1 := ⟨hx, hb, hml, hown, hts⟩
  subst hsz
  have hD := hD0.self (sz := s.heap.size)
  generalize hAe : va_A [(h0, Sum.inr (1, [Value.ref q1, Value.ref q2, Value.ref q3, Value.ref q4, Value.int n1, Value.int n2])), (q1, Sum.inl (cy1, 8, Sum.inl f1))] s.heap.size = A at hD hX ⊢
  have hA : ∀ q : Nat, s.heap.size ≤ q → A q := fun q h => by rw [← hAe]; exact Or.inr h
  have hS : va_S A s.heap s.heap [] := va_S.rf
  have hl := lv_entry ([Value.ref h0]) (n := 1) (Nat.le_of_ble_eq_true rfl)
  rw [lg_entry_eq]
  generalize (lg_sl ([Value.ref h0]) ++ List.replicate (1 - (lg_sl ([Value.ref h0])).length) Slot.unset).toArray = ls at hl ⊢
  have hl : lv_has ls 1 [(0, Value.ref h0)] := hl
  have hP : va_P D vwCl [(h0, Sum.inr (1, [Value.ref q1, Value.ref q2, Value.ref q3, Value.ref q4, Value.int n1, Value.int n2])), (q1, Sum.inl (cy1, 8, Sum.inl f1))] s.heap := hP
  refine lv_aload_n hx hb dX1_near_0 rfl (lv_at hl 0 rfl) ?_
  refine va_get (D := D) (ci := 1) (v := Value.ref q1) (C := RX1) (T := TX1) (N := 6) hx hb hts inG_X1 hown hK hP 0 rfl rfl 0 (by decide) (hts _ kw_1_99) (fun _ h9 => h9) rfl dX1_near_1 ?_
  refine lv_iconst (v := 4) hx hb dX1_near_4 (by decide) ?_
  refine m_iald hx hb hK hP 1 0 rfl rfl 4 rfl (by decide) (by decide) dX1_near_5 ?_
  refine lv_topi (fun v_1 ev_1 => ?_)
  have hP9 := hP.sub (ws' := [(h0, Sum.inr (1, [Value.ref q1, Value.ref q2, Value.ref q3, Value.ref q4, Value.int n1, Value.int n2])), (q1, Sum.inl (cy1, 8, Sum.inl f1))]) [0, 1] rfl
  have hD9 := hD.sub (ws' := [(h0, Sum.inr (1, [Value.ref q1, Value.ref q2, Value.ref q3, Value.ref q4, Value.int n1, Value.int n2])), (q1, Sum.inl (cy1, 8, Sum.inl f1))]) [0, 1] (by decide) rfl
  have hK9 := hK.sub (tys' := []) [] rfl
  refine W.widen (k := 0) (n := 0) (by decide) (by decide) ?_
  exact W.iret (v := v_1) hx hb hr (fun t ht hW => ⟨⟨v_1, (), rfl, by simp only [ev_1], by rw [ht]; exact hP9, va_K.moved hW.alike hK9, hD9⟩, hS.F ht⟩) hS.2.2 dX1_near_6
theorem dX1_heal_0 : decode cX1_heal 0 = .ok (.aload_n 0, 1) := by decide +kernel
theorem dX1_heal_1 : decode cX1_heal 1 = .ok (.getfield 15, 3) := by decide +kernel
theorem dX1_heal_4 : decode cX1_heal 4 = .ok (.iconst 5, 1) := by decide +kernel
theorem dX1_heal_5 : decode cX1_heal 5 = .ok (.iaload, 1) := by decide +kernel
theorem dX1_heal_6 : decode cX1_heal 6 = .ok (.ireturn, 1) := by decide +kernel
set_option maxHeartbeats 4000000 in
set_option maxRecDepth 100000 in
theorem c_cu_heal (l : Launch) (D : va_G) (h0 : Nat) (q1 : Nat) (q2 : Nat) (q3 : Nat) (q4 : Nat) (cy1 : ClassId) (f1 : Nat → Int32) (n1 : Int32) (n2 : Int32) : cI l yX1_heal (.code yX1_heal cX1_heal 1 (some .int)) ({ frames := 0, cells := 0, slots := 0, locals := 0 }) D [(cy1, .int)] [(h0, Sum.inr (1, [Value.ref q1, Value.ref q2, Value.ref q3, Value.ref q4, Value.int n1, Value.int n2])), (q1, Sum.inl (cy1, 8, Sum.inl f1))] xT [Value.ref h0] (S := Unit) (fun r _ => r = f1 5) (fun _ => []) (fun _ => [(h0, Sum.inr (1, [Value.ref q1, Value.ref q2, Value.ref q3, Value.ref q4, Value.int n1, Value.int n2])), (q1, Sum.inl (cy1, 8, Sum.inl f1))]) := by
  intro sz
  refine Met.ofW (cc := cX1_heal) (maxL := 1) (ret := (some .int)) (by decide) rfl ?_
  intro p e s m args below meth c s₁ B hml hv
  obtain ⟨rfl, hsz, hP, hK, hD0, hX⟩ := hv
  have hx := B.exec
  have hb := B.bytes
  have hr := B.returns
  have hts0 := atoms_spec (ws := .code yX1_heal cX1_heal 1 (some .int) :: gw) B.pre
  have hts := fun (w : Cond) (h : w ∈ gw) => hts0 w (List.mem_cons_of_mem _ h)
  have hown : s.vm.findClass RX1 = some m.cls := findClass_of_methodNamed B.named
  have hlocks := B.notSynchronized
  have F : mFix p s m _ c cX1_heal 1 RX1 := ⟨hx, hb, hml, hown, hts⟩
  subst hsz
  have hD := hD0.self (sz := s.heap.size)
  generalize hAe : va_A [(h0, Sum.inr (1, [Value.ref q1, Value.ref q2, Value.ref q3, Value.ref q4, Value.int n1, Value.int n2])), (q1, Sum.inl (cy1, 8, Sum.inl f1))] s.heap.size = A at hD hX ⊢
  have hA : ∀ q : Nat, s.heap.size ≤ q → A q := fun q h => by rw [← hAe]; exact Or.inr h
  have hS : va_S A s.heap s.heap [] := va_S.rf
  have hl := lv_entry ([Value.ref h0]) (n := 1) (Nat.le_of_ble_eq_true rfl)
  rw [lg_entry_eq]
  generalize (lg_sl ([Value.ref h0]) ++ List.replicate (1 - (lg_sl ([Value.ref h0])).length) Slot.unset).toArray = ls at hl ⊢
  have hl : lv_has ls 1 [(0, Value.ref h0)] := hl
  have hP : va_P D vwCl [(h0, Sum.inr (1, [Value.ref q1, Value.ref q2, Value.ref q3, Value.ref q4, Value.int n1, Value.int n2])), (q1, Sum.inl (cy1, 8, Sum.inl f1))] s.heap := hP
  refine lv_aload_n hx hb dX1_heal_0 rfl (lv_at hl 0 rfl) ?_
  refine va_get (D := D) (ci := 1) (v := Value.ref q1) (C := RX1) (T := TX1) (N := 6) hx hb hts inG_X1 hown hK hP 0 rfl rfl 0 (by decide) (hts _ kw_1_99) (fun _ h9 => h9) rfl dX1_heal_1 ?_
  refine lv_iconst (v := 5) hx hb dX1_heal_4 (by decide) ?_
  refine m_iald hx hb hK hP 1 0 rfl rfl 5 rfl (by decide) (by decide) dX1_heal_5 ?_
  refine lv_topi (fun v_1 ev_1 => ?_)
  have hP9 := hP.sub (ws' := [(h0, Sum.inr (1, [Value.ref q1, Value.ref q2, Value.ref q3, Value.ref q4, Value.int n1, Value.int n2])), (q1, Sum.inl (cy1, 8, Sum.inl f1))]) [0, 1] rfl
  have hD9 := hD.sub (ws' := [(h0, Sum.inr (1, [Value.ref q1, Value.ref q2, Value.ref q3, Value.ref q4, Value.int n1, Value.int n2])), (q1, Sum.inl (cy1, 8, Sum.inl f1))]) [0, 1] (by decide) rfl
  have hK9 := hK.sub (tys' := []) [] rfl
  refine W.widen (k := 0) (n := 0) (by decide) (by decide) ?_
  exact W.iret (v := v_1) hx hb hr (fun t ht hW => ⟨⟨v_1, (), rfl, by simp only [ev_1], by rw [ht]; exact hP9, va_K.moved hW.alike hK9, hD9⟩, hS.F ht⟩) hS.2.2 dX1_heal_6
theorem dX1_feeByWeight_0 : decode cX1_feeByWeight 0 = .ok (.aload_n 0, 1) := by decide +kernel
theorem dX1_feeByWeight_1 : decode cX1_feeByWeight 1 = .ok (.getfield 15, 3) := by decide +kernel
theorem dX1_feeByWeight_4 : decode cX1_feeByWeight 4 = .ok (.bipush 6, 2) := by decide +kernel
theorem dX1_feeByWeight_6 : decode cX1_feeByWeight 6 = .ok (.iaload, 1) := by decide +kernel
theorem dX1_feeByWeight_7 : decode cX1_feeByWeight 7 = .ok (.ireturn, 1) := by decide +kernel
set_option maxHeartbeats 4000000 in
set_option maxRecDepth 100000 in
theorem c_cu_feeByWeight (l : Launch) (D : va_G) (h0 : Nat) (q1 : Nat) (q2 : Nat) (q3 : Nat) (q4 : Nat) (cy1 : ClassId) (f1 : Nat → Int32) (n1 : Int32) (n2 : Int32) : cI l yX1_feeByWeight (.code yX1_feeByWeight cX1_feeByWeight 1 (some .int)) ({ frames := 0, cells := 0, slots := 0, locals := 0 }) D [(cy1, .int)] [(h0, Sum.inr (1, [Value.ref q1, Value.ref q2, Value.ref q3, Value.ref q4, Value.int n1, Value.int n2])), (q1, Sum.inl (cy1, 8, Sum.inl f1))] xT [Value.ref h0] (S := Unit) (fun r _ => r = f1 6) (fun _ => []) (fun _ => [(h0, Sum.inr (1, [Value.ref q1, Value.ref q2, Value.ref q3, Value.ref q4, Value.int n1, Value.int n2])), (q1, Sum.inl (cy1, 8, Sum.inl f1))]) := by
  intro sz
  refine Met.ofW (cc := cX1_feeByWeight) (maxL := 1) (ret := (some .int)) (by decide) rfl ?_
  intro p e s m args below meth c s₁ B hml hv
  obtain ⟨rfl, hsz, hP, hK, hD0, hX⟩ := hv
  have hx := B.exec
  have hb := B.bytes
  have hr := B.returns
  have hts0 := atoms_spec (ws := .code yX1_feeByWeight cX1_feeByWeight 1 (some .int) :: gw) B.pre
  have hts := fun (w : Cond) (h : w ∈ gw) => hts0 w (List.mem_cons_of_mem _ h)
  have hown : s.vm.findClass RX1 = some m.cls := findClass_of_methodNamed B.named
  have hlocks := B.notSynchronized
  have F : mFix p s m _ c cX1_feeByWeight 1 RX1 := ⟨hx, hb, hml, hown, hts⟩
  subst hsz
  have hD := hD0.self (sz := s.heap.size)
  generalize hAe : va_A [(h0, Sum.inr (1, [Value.ref q1, Value.ref q2, Value.ref q3, Value.ref q4, Value.int n1, Value.int n2])), (q1, Sum.inl (cy1, 8, Sum.inl f1))] s.heap.size = A at hD hX ⊢
  have hA : ∀ q : Nat, s.heap.size ≤ q → A q := fun q h => by rw [← hAe]; exact Or.inr h
  have hS : va_S A s.heap s.heap [] := va_S.rf
  have hl := lv_entry ([Value.ref h0]) (n := 1) (Nat.le_of_ble_eq_true rfl)
  rw [lg_entry_eq]
  generalize (lg_sl ([Value.ref h0]) ++ List.replicate (1 - (lg_sl ([Value.ref h0])).length) Slot.unset).toArray = ls at hl ⊢
  have hl : lv_has ls 1 [(0, Value.ref h0)] := hl
  have hP : va_P D vwCl [(h0, Sum.inr (1, [Value.ref q1, Value.ref q2, Value.ref q3, Value.ref q4, Value.int n1, Value.int n2])), (q1, Sum.inl (cy1, 8, Sum.inl f1))] s.heap := hP
  refine lv_aload_n hx hb dX1_feeByWeight_0 rfl (lv_at hl 0 rfl) ?_
  refine va_get (D := D) (ci := 1) (v := Value.ref q1) (C := RX1) (T := TX1) (N := 6) hx hb hts inG_X1 hown hK hP 0 rfl rfl 0 (by decide) (hts _ kw_1_99) (fun _ h9 => h9) rfl dX1_feeByWeight_1 ?_
  refine lv_bipush (v := 6) hx hb dX1_feeByWeight_4 (by decide) ?_
  refine m_iald hx hb hK hP 1 0 rfl rfl 6 rfl (by decide) (by decide) dX1_feeByWeight_6 ?_
  refine lv_topi (fun v_1 ev_1 => ?_)
  have hP9 := hP.sub (ws' := [(h0, Sum.inr (1, [Value.ref q1, Value.ref q2, Value.ref q3, Value.ref q4, Value.int n1, Value.int n2])), (q1, Sum.inl (cy1, 8, Sum.inl f1))]) [0, 1] rfl
  have hD9 := hD.sub (ws' := [(h0, Sum.inr (1, [Value.ref q1, Value.ref q2, Value.ref q3, Value.ref q4, Value.int n1, Value.int n2])), (q1, Sum.inl (cy1, 8, Sum.inl f1))]) [0, 1] (by decide) rfl
  have hK9 := hK.sub (tys' := []) [] rfl
  refine W.widen (k := 0) (n := 0) (by decide) (by decide) ?_
  exact W.iret (v := v_1) hx hb hr (fun t ht hW => ⟨⟨v_1, (), rfl, by simp only [ev_1], by rw [ht]; exact hP9, va_K.moved hW.alike hK9, hD9⟩, hS.F ht⟩) hS.2.2 dX1_feeByWeight_7
theorem dX1_feeForFire_0 : decode cX1_feeForFire 0 = .ok (.aload_n 0, 1) := by decide +kernel
theorem dX1_feeForFire_1 : decode cX1_feeForFire 1 = .ok (.getfield 15, 3) := by decide +kernel
theorem dX1_feeForFire_4 : decode cX1_feeForFire 4 = .ok (.bipush 7, 2) := by decide +kernel
theorem dX1_feeForFire_6 : decode cX1_feeForFire 6 = .ok (.iaload, 1) := by decide +kernel
theorem dX1_feeForFire_7 : decode cX1_feeForFire 7 = .ok (.ireturn, 1) := by decide +kernel
set_option maxHeartbeats 4000000 in
set_option maxRecDepth 100000 in
theorem c_cu_feeForFire (l : Launch) (D : va_G) (h0 : Nat) (q1 : Nat) (q2 : Nat) (q3 : Nat) (q4 : Nat) (cy1 : ClassId) (f1 : Nat → Int32) (n1 : Int32) (n2 : Int32) : cI l yX1_feeForFire (.code yX1_feeForFire cX1_feeForFire 1 (some .int)) ({ frames := 0, cells := 0, slots := 0, locals := 0 }) D [(cy1, .int)] [(h0, Sum.inr (1, [Value.ref q1, Value.ref q2, Value.ref q3, Value.ref q4, Value.int n1, Value.int n2])), (q1, Sum.inl (cy1, 8, Sum.inl f1))] xT [Value.ref h0] (S := Unit) (fun r _ => r = f1 7) (fun _ => []) (fun _ => [(h0, Sum.inr (1, [Value.ref q1, Value.ref q2, Value.ref q3, Value.ref q4, Value.int n1, Value.int n2])), (q1, Sum.inl (cy1, 8, Sum.inl f1))]) := by
  intro sz
  refine Met.ofW (cc := cX1_feeForFire) (maxL := 1) (ret := (some .int)) (by decide) rfl ?_
  intro p e s m args below meth c s₁ B hml hv
  obtain ⟨rfl, hsz, hP, hK, hD0, hX⟩ := hv
  have hx := B.exec
  have hb := B.bytes
  have hr := B.returns
  have hts0 := atoms_spec (ws := .code yX1_feeForFire cX1_feeForFire 1 (some .int) :: gw) B.pre
  have hts := fun (w : Cond) (h : w ∈ gw) => hts0 w (List.mem_cons_of_mem _ h)
  have hown : s.vm.findClass RX1 = some m.cls := findClass_of_methodNamed B.named
  have hlocks := B.notSynchronized
  have F : mFix p s m _ c cX1_feeForFire 1 RX1 := ⟨hx, hb, hml, hown, hts⟩
  subst hsz
  have hD := hD0.self (sz := s.heap.size)
  generalize hAe : va_A [(h0, Sum.inr (1, [Value.ref q1, Value.ref q2, Value.ref q3, Value.ref q4, Value.int n1, Value.int n2])), (q1, Sum.inl (cy1, 8, Sum.inl f1))] s.heap.size = A at hD hX ⊢
  have hA : ∀ q : Nat, s.heap.size ≤ q → A q := fun q h => by rw [← hAe]; exact Or.inr h
  have hS : va_S A s.heap s.heap [] := va_S.rf
  have hl := lv_entry ([Value.ref h0]) (n := 1) (Nat.le_of_ble_eq_true rfl)
  rw [lg_entry_eq]
  generalize (lg_sl ([Value.ref h0]) ++ List.replicate (1 - (lg_sl ([Value.ref h0])).length) Slot.unset).toArray = ls at hl ⊢
  have hl : lv_has ls 1 [(0, Value.ref h0)] := hl
  have hP : va_P D vwCl [(h0, Sum.inr (1, [Value.ref q1, Value.ref q2, Value.ref q3, Value.ref q4, Value.int n1, Value.int n2])), (q1, Sum.inl (cy1, 8, Sum.inl f1))] s.heap := hP
  refine lv_aload_n hx hb dX1_feeForFire_0 rfl (lv_at hl 0 rfl) ?_
  refine va_get (D := D) (ci := 1) (v := Value.ref q1) (C := RX1) (T := TX1) (N := 6) hx hb hts inG_X1 hown hK hP 0 rfl rfl 0 (by decide) (hts _ kw_1_99) (fun _ h9 => h9) rfl dX1_feeForFire_1 ?_
  refine lv_bipush (v := 7) hx hb dX1_feeForFire_4 (by decide) ?_
  refine m_iald hx hb hK hP 1 0 rfl rfl 7 rfl (by decide) (by decide) dX1_feeForFire_6 ?_
  refine lv_topi (fun v_1 ev_1 => ?_)
  have hP9 := hP.sub (ws' := [(h0, Sum.inr (1, [Value.ref q1, Value.ref q2, Value.ref q3, Value.ref q4, Value.int n1, Value.int n2])), (q1, Sum.inl (cy1, 8, Sum.inl f1))]) [0, 1] rfl
  have hD9 := hD.sub (ws' := [(h0, Sum.inr (1, [Value.ref q1, Value.ref q2, Value.ref q3, Value.ref q4, Value.int n1, Value.int n2])), (q1, Sum.inl (cy1, 8, Sum.inl f1))]) [0, 1] (by decide) rfl
  have hK9 := hK.sub (tys' := []) [] rfl
  refine W.widen (k := 0) (n := 0) (by decide) (by decide) ?_
  exact W.iret (v := v_1) hx hb hr (fun t ht hW => ⟨⟨v_1, (), rfl, by simp only [ev_1], by rw [ht]; exact hP9, va_K.moved hW.alike hK9, hD9⟩, hS.F ht⟩) hS.2.2 dX1_feeForFire_7
theorem dX3_boothNumbered_0 : decode cX3_boothNumbered 0 = .ok (.iload_n 1, 1) := by decide +kernel
theorem dX3_boothNumbered_1 : decode cX3_boothNumbered 1 = .ok (.ifCond .lt 17, 3) := by decide +kernel
theorem dX3_boothNumbered_18 : decode cX3_boothNumbered 18 = .ok (.aconst_null, 1) := by decide +kernel
theorem dX3_boothNumbered_19 : decode cX3_boothNumbered 19 = .ok (.areturn, 1) := by decide +kernel
theorem dX3_boothNumbered_4 : decode cX3_boothNumbered 4 = .ok (.iload_n 1, 1) := by decide +kernel
theorem dX3_boothNumbered_5 : decode cX3_boothNumbered 5 = .ok (.aload_n 0, 1) := by decide +kernel
theorem kw_1_226 : Cond.fieldLink RX3 36 "IceFair$Fair" "boothCount" "I" ∈ gw := gw_t1 (List.mem_of_getElem? (i := 226) (by decide +kernel)) (by decide +kernel)
theorem dX3_boothNumbered_6 : decode cX3_boothNumbered 6 = .ok (.getfield 36, 3) := by decide +kernel
theorem dX3_boothNumbered_9 : decode cX3_boothNumbered 9 = .ok (.if_icmp .ge 9, 3) := by decide +kernel
theorem dX3_boothNumbered_12 : decode cX3_boothNumbered 12 = .ok (.iload_n 1, 1) := by decide +kernel
theorem dX3_boothNumbered_13 : decode cX3_boothNumbered 13 = .ok (.bipush 10, 2) := by decide +kernel
theorem dX3_boothNumbered_15 : decode cX3_boothNumbered 15 = .ok (.if_icmp .lt 5, 3) := by decide +kernel
theorem dX3_boothNumbered_20 : decode cX3_boothNumbered 20 = .ok (.aload_n 0, 1) := by decide +kernel
theorem dX3_boothNumbered_21 : decode cX3_boothNumbered 21 = .ok (.getfield 27, 3) := by decide +kernel
theorem dX3_boothNumbered_24 : decode cX3_boothNumbered 24 = .ok (.iload_n 1, 1) := by decide +kernel
theorem dX3_boothNumbered_25 : decode cX3_boothNumbered 25 = .ok (.aaload, 1) := by decide +kernel
theorem dX3_boothNumbered_26 : decode cX3_boothNumbered 26 = .ok (.areturn, 1) := by decide +kernel
set_option maxHeartbeats 4000000 in
set_option maxRecDepth 100000 in
theorem c_boothNumbered (l : Launch) (D : va_G) (bo : Nat → Nat) (h0 : Nat) (cu : Nat) (rv : Nat) (bt : Nat) (bc9 : ClassId) (bc : Nat) (ho : Int32) (fe : Int32) (x : Int32) (hbc : bc ≤ 10) : cQ l yX3_boothNumbered (.code yX3_boothNumbered cX3_boothNumbered 2 (some (.object "IceFair$Booth"))) ({ frames := 0, cells := 0, slots := 0, locals := 0 }) D [(bc9, .object RX0)] [(h0, Sum.inr (3, [Value.ref cu, Value.ref rv, Value.ref bt, Value.int (nI bc), Value.int ho, Value.int fe])), (bt, Sum.inl (bc9, 10, Sum.inr (Sum.inr (Sum.inr (Sum.inr (fun j => some (bo j)))))))] xT [Value.ref h0, Value.int x] (S := Unit) (fun r _ => r = none ∨ ∃ j : Nat, j < bc ∧ x = nI j ∧ r = some (bo j)) (fun _ => []) (fun _ => [(h0, Sum.inr (3, [Value.ref cu, Value.ref rv, Value.ref bt, Value.int (nI bc), Value.int ho, Value.int fe])), (bt, Sum.inl (bc9, 10, Sum.inr (Sum.inr (Sum.inr (Sum.inr (fun j => some (bo j)))))))]) := by
  intro sz
  refine Met.ofW (cc := cX3_boothNumbered) (maxL := 2) (ret := (some (.object "IceFair$Booth"))) (by decide) rfl ?_
  intro p e s m args below meth c s₁ B hml hv
  obtain ⟨rfl, hsz, hP, hK, hD0, hX⟩ := hv
  have hx := B.exec
  have hb := B.bytes
  have hr := B.returns
  have hts0 := atoms_spec (ws := .code yX3_boothNumbered cX3_boothNumbered 2 (some (.object "IceFair$Booth")) :: gw) B.pre
  have hts := fun (w : Cond) (h : w ∈ gw) => hts0 w (List.mem_cons_of_mem _ h)
  have hown : s.vm.findClass RX3 = some m.cls := findClass_of_methodNamed B.named
  have hlocks := B.notSynchronized
  have F : mFix p s m _ c cX3_boothNumbered 2 RX3 := ⟨hx, hb, hml, hown, hts⟩
  subst hsz
  have hD := hD0.self (sz := s.heap.size)
  generalize hAe : va_A [(h0, Sum.inr (3, [Value.ref cu, Value.ref rv, Value.ref bt, Value.int (nI bc), Value.int ho, Value.int fe])), (bt, Sum.inl (bc9, 10, Sum.inr (Sum.inr (Sum.inr (Sum.inr (fun j => some (bo j)))))))] s.heap.size = A at hD hX ⊢
  have hA : ∀ q : Nat, s.heap.size ≤ q → A q := fun q h => by rw [← hAe]; exact Or.inr h
  have hS : va_S A s.heap s.heap [] := va_S.rf
  have hl := lv_entry ([Value.ref h0, Value.int x]) (n := 2) (Nat.le_of_ble_eq_true rfl)
  rw [lg_entry_eq]
  generalize (lg_sl ([Value.ref h0, Value.int x]) ++ List.replicate (2 - (lg_sl ([Value.ref h0, Value.int x])).length) Slot.unset).toArray = ls at hl ⊢
  have hl : lv_has ls 2 [(0, Value.ref h0), (1, Value.int x)] := hl
  have hP : va_P D vwCl [(h0, Sum.inr (3, [Value.ref cu, Value.ref rv, Value.ref bt, Value.int (nI bc), Value.int ho, Value.int fe])), (bt, Sum.inl (bc9, 10, Sum.inr (Sum.inr (Sum.inr (Sum.inr (fun j => some (bo j)))))))] s.heap := hP
  refine lv_iload_n hx hb dX3_boothNumbered_0 rfl (lv_at hl 1 rfl) ?_
  refine lv_if_lt (tgt := 18) hx hb dX3_boothNumbered_1 (by decide) (fun c_1 => ?_) (fun c_1 => ?_)
  · skip
    refine lv_null hx hb dX3_boothNumbered_18 ?_
    have hP9 := hP.sub (ws' := [(h0, Sum.inr (3, [Value.ref cu, Value.ref rv, Value.ref bt, Value.int (nI bc), Value.int ho, Value.int fe])), (bt, Sum.inl (bc9, 10, Sum.inr (Sum.inr (Sum.inr (Sum.inr (fun j => some (bo j)))))))]) [0, 1] rfl
    have hD9 := hD.sub (ws' := [(h0, Sum.inr (3, [Value.ref cu, Value.ref rv, Value.ref bt, Value.int (nI bc), Value.int ho, Value.int fe])), (bt, Sum.inl (bc9, 10, Sum.inr (Sum.inr (Sum.inr (Sum.inr (fun j => some (bo j)))))))]) [0, 1] (by decide) rfl
    have hK9 := hK.sub (tys' := []) [] rfl
    refine W.widen (k := 0) (n := 0) (by decide) (by decide) ?_
    exact W.aret (v := Value.null) hx hb hr (Or.inl ⟨_, rfl⟩) (Or.inl rfl) (fun t ht hW => ⟨⟨none, (), rfl, Or.inl rfl, by rw [ht]; exact hP9, va_K.moved hW.alike hK9, hD9⟩, hS.F ht⟩) hS.2.2 dX3_boothNumbered_19
  · skip
    refine lv_iload_n hx hb dX3_boothNumbered_4 rfl (lv_at hl 1 rfl) ?_
    refine lv_aload_n hx hb dX3_boothNumbered_5 rfl (lv_at hl 0 rfl) ?_
    refine va_get (D := D) (ci := 3) (v := Value.int (nI bc)) (C := RX3) (T := TX3) (N := 6) hx hb hts inG_X3 hown hK hP 0 rfl rfl 3 (by decide) (hts _ kw_1_226) (fun _ h9 => h9) rfl dX3_boothNumbered_6 ?_
    refine lv_icmp_ge (tgt := 18) hx hb dX3_boothNumbered_9 (by decide) (fun c_2 => ?_) (fun c_2 => ?_)
    · skip
      have c_2 := Int32.not_lt.mpr c_2
      refine lv_null hx hb dX3_boothNumbered_18 ?_
      have hP9 := hP.sub (ws' := [(h0, Sum.inr (3, [Value.ref cu, Value.ref rv, Value.ref bt, Value.int (nI bc), Value.int ho, Value.int fe])), (bt, Sum.inl (bc9, 10, Sum.inr (Sum.inr (Sum.inr (Sum.inr (fun j => some (bo j)))))))]) [0, 1] rfl
      have hD9 := hD.sub (ws' := [(h0, Sum.inr (3, [Value.ref cu, Value.ref rv, Value.ref bt, Value.int (nI bc), Value.int ho, Value.int fe])), (bt, Sum.inl (bc9, 10, Sum.inr (Sum.inr (Sum.inr (Sum.inr (fun j => some (bo j)))))))]) [0, 1] (by decide) rfl
      have hK9 := hK.sub (tys' := []) [] rfl
      refine W.widen (k := 0) (n := 0) (by decide) (by decide) ?_
      exact W.aret (v := Value.null) hx hb hr (Or.inl ⟨_, rfl⟩) (Or.inl rfl) (fun t ht hW => ⟨⟨none, (), rfl, Or.inl rfl, by rw [ht]; exact hP9, va_K.moved hW.alike hK9, hD9⟩, hS.F ht⟩) hS.2.2 dX3_boothNumbered_19
    · skip
      have c_2 := Int32.not_le.mp c_2
      obtain ⟨jx, hjx, ejx⟩ := n_lt c_1 (Int32.not_le.mpr c_2) (by omega)
      subst ejx
      have hl : lv_has ls 2 [(0, Value.ref h0), (1, Value.int (nI jx))] := hl
      refine lv_iload_n hx hb dX3_boothNumbered_12 rfl (lv_at hl 1 rfl) ?_
      refine lv_bipush (v := 10) hx hb dX3_boothNumbered_13 (by decide) ?_
      refine lv_icmp_lt (tgt := 20) hx hb dX3_boothNumbered_15 (by decide) (fun c_3 => ?_) (fun c_3 => absurd ((nI_ltI (a := jx) (b := 10) (by omega) (by decide)).mpr (by omega)) c_3)
      have c_3n : jx < 10 := (nI_ltI (by omega) (by omega)).mp c_3
      refine lv_aload_n hx hb dX3_boothNumbered_20 rfl (lv_at hl 0 rfl) ?_
      refine va_get (D := D) (ci := 3) (v := Value.ref bt) (C := RX3) (T := TX3) (N := 6) hx hb hts inG_X3 hown hK hP 0 rfl rfl 2 (by decide) (hts _ kw_1_223) (fun _ h9 => h9) rfl dX3_boothNumbered_21 ?_
      refine lv_iload_n hx hb dX3_boothNumbered_24 rfl (lv_at hl 1 rfl) ?_
      refine m_aald hx hb hK hP 1 0 rfl rfl jx rfl (by omega) (by decide) dX3_boothNumbered_25 ?_
      refine W.eq (g2 := F0 m 26 ls [Value.ref (bo jx)]) rfl ?_
      have hP9 := hP.sub (ws' := [(h0, Sum.inr (3, [Value.ref cu, Value.ref rv, Value.ref bt, Value.int (nI bc), Value.int ho, Value.int fe])), (bt, Sum.inl (bc9, 10, Sum.inr (Sum.inr (Sum.inr (Sum.inr (fun j => some (bo j)))))))]) [0, 1] rfl
      have hD9 := hD.sub (ws' := [(h0, Sum.inr (3, [Value.ref cu, Value.ref rv, Value.ref bt, Value.int (nI bc), Value.int ho, Value.int fe])), (bt, Sum.inl (bc9, 10, Sum.inr (Sum.inr (Sum.inr (Sum.inr (fun j => some (bo j)))))))]) [0, 1] (by decide) rfl
      have hK9 := hK.sub (tys' := []) [] rfl
      refine W.widen (k := 0) (n := 0) (by decide) (by decide) ?_
      exact W.aret (v := Value.ref (bo jx)) hx hb hr (Or.inl ⟨_, rfl⟩) (Or.inr ⟨_, rfl⟩) (fun t ht hW => ⟨⟨(some (bo jx)), (), rfl, Or.inr ⟨jx, hjx, rfl, rfl⟩, by rw [ht]; exact hP9, va_K.moved hW.alike hK9, hD9⟩, hS.F ht⟩) hS.2.2 dX3_boothNumbered_26
theorem dX3_addBooth_0 : decode cX3_addBooth 0 = .ok (.aload_n 0, 1) := by decide +kernel
theorem dX3_addBooth_1 : decode cX3_addBooth 1 = .ok (.getfield 36, 3) := by decide +kernel
theorem dX3_addBooth_4 : decode cX3_addBooth 4 = .ok (.ifCond .lt 12, 3) := by decide +kernel
theorem dX3_addBooth_7 : decode cX3_addBooth 7 = .ok (.aload_n 0, 1) := by decide +kernel
theorem dX3_addBooth_8 : decode cX3_addBooth 8 = .ok (.getfield 36, 3) := by decide +kernel
theorem dX3_addBooth_11 : decode cX3_addBooth 11 = .ok (.bipush 10, 2) := by decide +kernel
theorem dX3_addBooth_13 : decode cX3_addBooth 13 = .ok (.if_icmp .lt 5, 3) := by decide +kernel
theorem dX3_addBooth_18 : decode cX3_addBooth 18 = .ok (.aload_n 0, 1) := by decide +kernel
theorem dX3_addBooth_19 : decode cX3_addBooth 19 = .ok (.getfield 27, 3) := by decide +kernel
theorem dX3_addBooth_22 : decode cX3_addBooth 22 = .ok (.aload_n 0, 1) := by decide +kernel
theorem dX3_addBooth_23 : decode cX3_addBooth 23 = .ok (.getfield 36, 3) := by decide +kernel
theorem dX3_addBooth_26 : decode cX3_addBooth 26 = .ok (.aaload, 1) := by decide +kernel
theorem dX3_addBooth_27 : decode cX3_addBooth 27 = .ok (.astore 4, 2) := by decide +kernel
theorem dX3_addBooth_29 : decode cX3_addBooth 29 = .ok (.aload 4, 2) := by decide +kernel
theorem dX3_addBooth_31 : decode cX3_addBooth 31 = .ok (.aload_n 0, 1) := by decide +kernel
theorem dX3_addBooth_32 : decode cX3_addBooth 32 = .ok (.getfield 36, 3) := by decide +kernel
theorem kw_1_185 : Cond.fieldLink RX3 46 "IceFair$Booth" "number" "I" ∈ gw := gw_t1 (List.mem_of_getElem? (i := 185) (by decide +kernel)) (by decide +kernel)
theorem dX3_addBooth_35 : decode cX3_addBooth 35 = .ok (.putfield 46, 3) := by decide +kernel
theorem dX3_addBooth_38 : decode cX3_addBooth 38 = .ok (.aload 4, 2) := by decide +kernel
theorem dX3_addBooth_40 : decode cX3_addBooth 40 = .ok (.iload_n 1, 1) := by decide +kernel
theorem kw_1_186 : Cond.fieldLink RX3 49 "IceFair$Booth" "weight" "I" ∈ gw := gw_t1 (List.mem_of_getElem? (i := 186) (by decide +kernel)) (by decide +kernel)
theorem dX3_addBooth_41 : decode cX3_addBooth 41 = .ok (.putfield 49, 3) := by decide +kernel
theorem dX3_addBooth_44 : decode cX3_addBooth 44 = .ok (.aload 4, 2) := by decide +kernel
theorem dX3_addBooth_46 : decode cX3_addBooth 46 = .ok (.iload_n 2, 1) := by decide +kernel
theorem kw_1_187 : Cond.fieldLink RX3 52 "IceFair$Booth" "fire" "Z" ∈ gw := gw_t1 (List.mem_of_getElem? (i := 187) (by decide +kernel)) (by decide +kernel)
theorem dX3_addBooth_47 : decode cX3_addBooth 47 = .ok (.putfield 52, 3) := by decide +kernel
theorem dX3_addBooth_50 : decode cX3_addBooth 50 = .ok (.aload 4, 2) := by decide +kernel
theorem dX3_addBooth_52 : decode cX3_addBooth 52 = .ok (.iload_n 3, 1) := by decide +kernel
theorem kw_1_188 : Cond.fieldLink RX3 56 "IceFair$Booth" "crowd" "I" ∈ gw := gw_t1 (List.mem_of_getElem? (i := 188) (by decide +kernel)) (by decide +kernel)
theorem dX3_addBooth_53 : decode cX3_addBooth 53 = .ok (.putfield 56, 3) := by decide +kernel
theorem dX3_addBooth_56 : decode cX3_addBooth 56 = .ok (.aload 4, 2) := by decide +kernel
theorem dX3_addBooth_58 : decode cX3_addBooth 58 = .ok (.iconst 0, 1) := by decide +kernel
theorem kw_1_192 : Cond.fieldLink RX3 59 "IceFair$Booth" "state" "I" ∈ gw := gw_t1 (List.mem_of_getElem? (i := 192) (by decide +kernel)) (by decide +kernel)
theorem dX3_addBooth_59 : decode cX3_addBooth 59 = .ok (.putfield 59, 3) := by decide +kernel
theorem dX3_addBooth_62 : decode cX3_addBooth 62 = .ok (.aload 4, 2) := by decide +kernel
theorem dX3_addBooth_64 : decode cX3_addBooth 64 = .ok (.iconst (-1), 1) := by decide +kernel
theorem kw_1_195 : Cond.fieldLink RX3 62 "IceFair$Booth" "x" "I" ∈ gw := gw_t1 (List.mem_of_getElem? (i := 195) (by decide +kernel)) (by decide +kernel)
theorem dX3_addBooth_65 : decode cX3_addBooth 65 = .ok (.putfield 62, 3) := by decide +kernel
theorem dX3_addBooth_68 : decode cX3_addBooth 68 = .ok (.aload 4, 2) := by decide +kernel
theorem dX3_addBooth_70 : decode cX3_addBooth 70 = .ok (.iconst (-1), 1) := by decide +kernel
theorem kw_1_198 : Cond.fieldLink RX3 65 "IceFair$Booth" "y" "I" ∈ gw := gw_t1 (List.mem_of_getElem? (i := 198) (by decide +kernel)) (by decide +kernel)
theorem dX3_addBooth_71 : decode cX3_addBooth 71 = .ok (.putfield 65, 3) := by decide +kernel
theorem dX3_addBooth_74 : decode cX3_addBooth 74 = .ok (.aload_n 0, 1) := by decide +kernel
theorem dX3_addBooth_75 : decode cX3_addBooth 75 = .ok (.dup, 1) := by decide +kernel
theorem dX3_addBooth_76 : decode cX3_addBooth 76 = .ok (.getfield 36, 3) := by decide +kernel
theorem dX3_addBooth_79 : decode cX3_addBooth 79 = .ok (.iconst 1, 1) := by decide +kernel
theorem dX3_addBooth_80 : decode cX3_addBooth 80 = .ok (.iadd, 1) := by decide +kernel
theorem dX3_addBooth_81 : decode cX3_addBooth 81 = .ok (.putfield 36, 3) := by decide +kernel
theorem dX3_addBooth_84 : decode cX3_addBooth 84 = .ok (.aload 4, 2) := by decide +kernel
theorem dX3_addBooth_86 : decode cX3_addBooth 86 = .ok (.getfield 46, 3) := by decide +kernel
theorem dX3_addBooth_89 : decode cX3_addBooth 89 = .ok (.ireturn, 1) := by decide +kernel
theorem dX3_addBooth_16 : decode cX3_addBooth 16 = .ok (.iconst (-1), 1) := by decide +kernel
theorem dX3_addBooth_17 : decode cX3_addBooth 17 = .ok (.ireturn, 1) := by decide +kernel