theorem dX1_bear_0 : decode cX1_bear 0 = .ok (.aload_n 0, 1) := by decide +kernel
theorem dX1_bear_1 : decode cX1_bear 1 = .ok (.getfield 15, 3) := by decide +kernel
theorem dX1_bear_4 : decode cX1_bear 4 = .ok (.iconst 0, 1) := by decide +kernel
theorem dX1_bear_5 : decode cX1_bear 5 = .ok (.iaload, 1) := by decide +kernel
theorem dX1_bear_6 : decode cX1_bear 6 = .ok (.ireturn, 1) := by decide +kernel
set_option maxHeartbeats 4000000 in
set_option maxRecDepth 100000 in
theorem c_cu_bear (l : Launch) (D : va_G) (h0 : Nat) (q1 : Nat) (q2 : Nat) (q3 : Nat) (q4 : Nat) (cy1 : ClassId) (n1 : Int32) (n2 : Int32) : cI l yX1_bear (.code yX1_bear cX1_bear 1 (some .int)) ({ frames := 0, cells := 0, slots := 0, locals := 0 }) D [(cy1, .int)] [(h0, .inr (1, [.ref q1, .ref q2, .ref q3, .ref q4, .int n1, .int n2])), (q1, .inl (cy1, 8, .inl uF))] xT [.ref h0] (S := Unit) (fun r _ => r = 100) (fun _ => []) (fun _ => [(h0, .inr (1, [.ref q1, .ref q2, .ref q3, .ref q4, .int n1, .int n2])), (q1, .inl (cy1, 8, .inl uF))]) := by
  intro sz
  refine Met.ofW (cc := cX1_bear) (maxL := 1) (ret := (some .int)) (by decide) rfl ?_
  intro p e s m args below meth c s₁ B hml hv
  obtain ⟨rfl, hsz, hP, hK, hD0, hX⟩ := hv
  have hx := B.exec
  have hb := B.bytes
  have hr := B.returns
  have hts0 := atoms_spec (ws := .code yX1_bear cX1_bear 1 (some .int) :: gw) B.pre
  have hts := fun (w : Cond) (h : w ∈ gw) => hts0 w (List.mem_cons_of_mem _ h)
  have hown : s.vm.findClass RX1 = some m.cls := findClass_of_methodNamed B.named
  have hlocks := B.notSynchronized
  have F : mFix p s m _ c cX1_bear 1 RX1 := ⟨hx, hb, hml, hown, hts⟩
  subst hsz
  have hD := hD0.self (sz := s.heap.size)
  generalize hAe : va_A [(h0, .inr (1, [.ref q1, .ref q2, .ref q3, .ref q4, .int n1, .int n2])), (q1, .inl (cy1, 8, .inl uF))] s.heap.size = A at hD hX ⊢
  have hA : ∀ q : Nat, s.heap.size ≤ q → A q := fun q h => by rw [← hAe]; exact Or.inr h
  have hS : va_S A s.heap s.heap [] := va_S.rf
  have hl := lv_entry ([.ref h0]) (n := 1) (Nat.le_of_ble_eq_true rfl)
  rw [lg_entry_eq]
  generalize (lg_sl ([.ref h0]) ++ List.replicate (1 - (lg_sl ([.ref h0])).length) Slot.unset).toArray = ls at hl ⊢
  have hl : lv_has ls 1 [(0, .ref h0)] := hl
  have hP : va_P D vwCl [(h0, .inr (1, [.ref q1, .ref q2, .ref q3, .ref q4, .int n1, .int n2])), (q1, .inl (cy1, 8, .inl uF))] s.heap := hP
  refine lv_aload_n hx hb dX1_bear_0 rfl (lv_at hl 0 rfl) ?_
  refine va_get (D := D) (ci := 1) (v := .ref q1) (C := RX1) (T := TX1) (N := 6) hx hb hts inG_X1 hown hK hP 0 rfl rfl 0 (by decide) (hts _ kw_1_99) (fun _ h9 => h9) rfl dX1_bear_1 ?_
  refine lv_iconst (v := 0) hx hb dX1_bear_4 (by decide) ?_
  refine m_iald hx hb hK hP 1 0 rfl rfl 0 rfl (by decide) (by decide) dX1_bear_5 ?_
  refine lv_topi (fun v_1 ev_1 => ?_)
  obtain rfl : v_1 = (100 : Int32) := ev_1.trans rfl
  have hP9 := hP.sub (ws' := [(h0, .inr (1, [.ref q1, .ref q2, .ref q3, .ref q4, .int n1, .int n2])), (q1, .inl (cy1, 8, .inl uF))]) [0, 1] rfl
  have hD9 := hD.sub (ws' := [(h0, .inr (1, [.ref q1, .ref q2, .ref q3, .ref q4, .int n1, .int n2])), (q1, .inl (cy1, 8, .inl uF))]) [0, 1] (by decide) rfl
  have hK9 := hK.sub (tys' := []) [] rfl
  refine W.widen (k := 0) (n := 0) (by decide) (by decide) ?_
  exact W.iret (v := 100) hx hb hr (fun t ht hW => ⟨⟨100, (), rfl, rfl, by rw [ht]; exact hP9, va_K.moved hW.alike hK9, hD9⟩, hS.F ht⟩) hS.2.2 dX1_bear_6
theorem dX1_meltOn_0 : decode cX1_meltOn 0 = .ok (.aload_n 0, 1) := by decide +kernel
theorem dX1_meltOn_1 : decode cX1_meltOn 1 = .ok (.getfield 15, 3) := by decide +kernel
theorem dX1_meltOn_4 : decode cX1_meltOn 4 = .ok (.iconst 1, 1) := by decide +kernel
theorem dX1_meltOn_5 : decode cX1_meltOn 5 = .ok (.iaload, 1) := by decide +kernel
theorem dX1_meltOn_6 : decode cX1_meltOn 6 = .ok (.ireturn, 1) := by decide +kernel
set_option maxHeartbeats 4000000 in
set_option maxRecDepth 100000 in
theorem c_cu_meltOn (l : Launch) (D : va_G) (h0 : Nat) (q1 : Nat) (q2 : Nat) (q3 : Nat) (q4 : Nat) (cy1 : ClassId) (n1 : Int32) (n2 : Int32) : cI l yX1_meltOn (.code yX1_meltOn cX1_meltOn 1 (some .int)) ({ frames := 0, cells := 0, slots := 0, locals := 0 }) D [(cy1, .int)] [(h0, .inr (1, [.ref q1, .ref q2, .ref q3, .ref q4, .int n1, .int n2])), (q1, .inl (cy1, 8, .inl uF))] xT [.ref h0] (S := Unit) (fun r _ => r = 1) (fun _ => []) (fun _ => [(h0, .inr (1, [.ref q1, .ref q2, .ref q3, .ref q4, .int n1, .int n2])), (q1, .inl (cy1, 8, .inl uF))]) := by
  intro sz
  refine Met.ofW (cc := cX1_meltOn) (maxL := 1) (ret := (some .int)) (by decide) rfl ?_
  intro p e s m args below meth c s₁ B hml hv
  obtain ⟨rfl, hsz, hP, hK, hD0, hX⟩ := hv
  have hx := B.exec
  have hb := B.bytes
  have hr := B.returns
  have hts0 := atoms_spec (ws := .code yX1_meltOn cX1_meltOn 1 (some .int) :: gw) B.pre
  have hts := fun (w : Cond) (h : w ∈ gw) => hts0 w (List.mem_cons_of_mem _ h)
  have hown : s.vm.findClass RX1 = some m.cls := findClass_of_methodNamed B.named
  have hlocks := B.notSynchronized
  have F : mFix p s m _ c cX1_meltOn 1 RX1 := ⟨hx, hb, hml, hown, hts⟩
  subst hsz
  have hD := hD0.self (sz := s.heap.size)
  generalize hAe : va_A [(h0, .inr (1, [.ref q1, .ref q2, .ref q3, .ref q4, .int n1, .int n2])), (q1, .inl (cy1, 8, .inl uF))] s.heap.size = A at hD hX ⊢
  have hA : ∀ q : Nat, s.heap.size ≤ q → A q := fun q h => by rw [← hAe]; exact Or.inr h
  have hS : va_S A s.heap s.heap [] := va_S.rf
  have hl := lv_entry ([.ref h0]) (n := 1) (Nat.le_of_ble_eq_true rfl)
  rw [lg_entry_eq]
  generalize (lg_sl ([.ref h0]) ++ List.replicate (1 - (lg_sl ([.ref h0])).length) Slot.unset).toArray = ls at hl ⊢
  have hl : lv_has ls 1 [(0, .ref h0)] := hl
  have hP : va_P D vwCl [(h0, .inr (1, [.ref q1, .ref q2, .ref q3, .ref q4, .int n1, .int n2])), (q1, .inl (cy1, 8, .inl uF))] s.heap := hP
  refine lv_aload_n hx hb dX1_meltOn_0 rfl (lv_at hl 0 rfl) ?_
  refine va_get (D := D) (ci := 1) (v := .ref q1) (C := RX1) (T := TX1) (N := 6) hx hb hts inG_X1 hown hK hP 0 rfl rfl 0 (by decide) (hts _ kw_1_99) (fun _ h9 => h9) rfl dX1_meltOn_1 ?_
  refine lv_iconst (v := 1) hx hb dX1_meltOn_4 (by decide) ?_
  refine m_iald hx hb hK hP 1 0 rfl rfl 1 rfl (by decide) (by decide) dX1_meltOn_5 ?_
  refine lv_topi (fun v_1 ev_1 => ?_)
  obtain rfl : v_1 = (1 : Int32) := ev_1.trans rfl
  have hP9 := hP.sub (ws' := [(h0, .inr (1, [.ref q1, .ref q2, .ref q3, .ref q4, .int n1, .int n2])), (q1, .inl (cy1, 8, .inl uF))]) [0, 1] rfl
  have hD9 := hD.sub (ws' := [(h0, .inr (1, [.ref q1, .ref q2, .ref q3, .ref q4, .int n1, .int n2])), (q1, .inl (cy1, 8, .inl uF))]) [0, 1] (by decide) rfl
  have hK9 := hK.sub (tys' := []) [] rfl
  refine W.widen (k := 0) (n := 0) (by decide) (by decide) ?_
  exact W.iret (v := 1) hx hb hr (fun t ht hW => ⟨⟨1, (), rfl, rfl, by rw [ht]; exact hP9, va_K.moved hW.alike hK9, hD9⟩, hS.F ht⟩) hS.2.2 dX1_meltOn_6
theorem dX1_meltBeside_0 : decode cX1_meltBeside 0 = .ok (.aload_n 0, 1) := by decide +kernel
theorem dX1_meltBeside_1 : decode cX1_meltBeside 1 = .ok (.getfield 15, 3) := by decide +kernel
theorem dX1_meltBeside_4 : decode cX1_meltBeside 4 = .ok (.iconst 2, 1) := by decide +kernel
theorem dX1_meltBeside_5 : decode cX1_meltBeside 5 = .ok (.iaload, 1) := by decide +kernel
theorem dX1_meltBeside_6 : decode cX1_meltBeside 6 = .ok (.ireturn, 1) := by decide +kernel
set_option maxHeartbeats 4000000 in
set_option maxRecDepth 100000 in
theorem c_cu_meltBeside (l : Launch) (D : va_G) (h0 : Nat) (q1 : Nat) (q2 : Nat) (q3 : Nat) (q4 : Nat) (cy1 : ClassId) (n1 : Int32) (n2 : Int32) : cI l yX1_meltBeside (.code yX1_meltBeside cX1_meltBeside 1 (some .int)) ({ frames := 0, cells := 0, slots := 0, locals := 0 }) D [(cy1, .int)] [(h0, .inr (1, [.ref q1, .ref q2, .ref q3, .ref q4, .int n1, .int n2])), (q1, .inl (cy1, 8, .inl uF))] xT [.ref h0] (S := Unit) (fun r _ => r = 0) (fun _ => []) (fun _ => [(h0, .inr (1, [.ref q1, .ref q2, .ref q3, .ref q4, .int n1, .int n2])), (q1, .inl (cy1, 8, .inl uF))]) := by
  intro sz
  refine Met.ofW (cc := cX1_meltBeside) (maxL := 1) (ret := (some .int)) (by decide) rfl ?_
  intro p e s m args below meth c s₁ B hml hv
  obtain ⟨rfl, hsz, hP, hK, hD0, hX⟩ := hv
  have hx := B.exec
  have hb := B.bytes
  have hr := B.returns
  have hts0 := atoms_spec (ws := .code yX1_meltBeside cX1_meltBeside 1 (some .int) :: gw) B.pre
  have hts := fun (w : Cond) (h : w ∈ gw) => hts0 w (List.mem_cons_of_mem _ h)
  have hown : s.vm.findClass RX1 = some m.cls := findClass_of_methodNamed B.named
  have hlocks := B.notSynchronized
  have F : mFix p s m _ c cX1_meltBeside 1 RX1 := ⟨hx, hb, hml, hown, hts⟩
  subst hsz
  have hD := hD0.self (sz := s.heap.size)
  generalize hAe : va_A [(h0, .inr (1, [.ref q1, .ref q2, .ref q3, .ref q4, .int n1, .int n2])), (q1, .inl (cy1, 8, .inl uF))] s.heap.size = A at hD hX ⊢
  have hA : ∀ q : Nat, s.heap.size ≤ q → A q := fun q h => by rw [← hAe]; exact Or.inr h
  have hS : va_S A s.heap s.heap [] := va_S.rf
  have hl := lv_entry ([.ref h0]) (n := 1) (Nat.le_of_ble_eq_true rfl)
  rw [lg_entry_eq]
  generalize (lg_sl ([.ref h0]) ++ List.replicate (1 - (lg_sl ([.ref h0])).length) Slot.unset).toArray = ls at hl ⊢
  have hl : lv_has ls 1 [(0, .ref h0)] := hl
  have hP : va_P D vwCl [(h0, .inr (1, [.ref q1, .ref q2, .ref q3, .ref q4, .int n1, .int n2])), (q1, .inl (cy1, 8, .inl uF))] s.heap := hP
  refine lv_aload_n hx hb dX1_meltBeside_0 rfl (lv_at hl 0 rfl) ?_
  refine va_get (D := D) (ci := 1) (v := .ref q1) (C := RX1) (T := TX1) (N := 6) hx hb hts inG_X1 hown hK hP 0 rfl rfl 0 (by decide) (hts _ kw_1_99) (fun _ h9 => h9) rfl dX1_meltBeside_1 ?_
  refine lv_iconst (v := 2) hx hb dX1_meltBeside_4 (by decide) ?_
  refine m_iald hx hb hK hP 1 0 rfl rfl 2 rfl (by decide) (by decide) dX1_meltBeside_5 ?_
  refine lv_topi (fun v_1 ev_1 => ?_)
  obtain rfl : v_1 = (0 : Int32) := ev_1.trans rfl
  have hP9 := hP.sub (ws' := [(h0, .inr (1, [.ref q1, .ref q2, .ref q3, .ref q4, .int n1, .int n2])), (q1, .inl (cy1, 8, .inl uF))]) [0, 1] rfl
  have hD9 := hD.sub (ws' := [(h0, .inr (1, [.ref q1, .ref q2, .ref q3, .ref q4, .int n1, .int n2])), (q1, .inl (cy1, 8, .inl uF))]) [0, 1] (by decide) rfl
  have hK9 := hK.sub (tys' := []) [] rfl
  refine W.widen (k := 0) (n := 0) (by decide) (by decide) ?_
  exact W.iret (v := 0) hx hb hr (fun t ht hW => ⟨⟨0, (), rfl, rfl, by rw [ht]; exact hP9, va_K.moved hW.alike hK9, hD9⟩, hS.F ht⟩) hS.2.2 dX1_meltBeside_6
theorem dX1_apart_0 : decode cX1_apart 0 = .ok (.aload_n 0, 1) := by decide +kernel
theorem dX1_apart_1 : decode cX1_apart 1 = .ok (.getfield 15, 3) := by decide +kernel
theorem dX1_apart_4 : decode cX1_apart 4 = .ok (.iconst 3, 1) := by decide +kernel
theorem dX1_apart_5 : decode cX1_apart 5 = .ok (.iaload, 1) := by decide +kernel
theorem dX1_apart_6 : decode cX1_apart 6 = .ok (.ireturn, 1) := by decide +kernel
set_option maxHeartbeats 4000000 in
set_option maxRecDepth 100000 in
theorem c_cu_apart (l : Launch) (D : va_G) (h0 : Nat) (q1 : Nat) (q2 : Nat) (q3 : Nat) (q4 : Nat) (cy1 : ClassId) (n1 : Int32) (n2 : Int32) : cI l yX1_apart (.code yX1_apart cX1_apart 1 (some .int)) ({ frames := 0, cells := 0, slots := 0, locals := 0 }) D [(cy1, .int)] [(h0, .inr (1, [.ref q1, .ref q2, .ref q3, .ref q4, .int n1, .int n2])), (q1, .inl (cy1, 8, .inl uF))] xT [.ref h0] (S := Unit) (fun r _ => r = 0) (fun _ => []) (fun _ => [(h0, .inr (1, [.ref q1, .ref q2, .ref q3, .ref q4, .int n1, .int n2])), (q1, .inl (cy1, 8, .inl uF))]) := by
  intro sz
  refine Met.ofW (cc := cX1_apart) (maxL := 1) (ret := (some .int)) (by decide) rfl ?_
  intro p e s m args below meth c s₁ B hml hv
  obtain ⟨rfl, hsz, hP, hK, hD0, hX⟩ := hv
  have hx := B.exec
  have hb := B.bytes
  have hr := B.returns
  have hts0 := atoms_spec (ws := .code yX1_apart cX1_apart 1 (some .int) :: gw) B.pre
  have hts := fun (w : Cond) (h : w ∈ gw) => hts0 w (List.mem_cons_of_mem _ h)
  have hown : s.vm.findClass RX1 = some m.cls := findClass_of_methodNamed B.named
  have hlocks := B.notSynchronized
  have F : mFix p s m _ c cX1_apart 1 RX1 := ⟨hx, hb, hml, hown, hts⟩
  subst hsz
  have hD := hD0.self (sz := s.heap.size)
  generalize hAe : va_A [(h0, .inr (1, [.ref q1, .ref q2, .ref q3, .ref q4, .int n1, .int n2])), (q1, .inl (cy1, 8, .inl uF))] s.heap.size = A at hD hX ⊢
  have hA : ∀ q : Nat, s.heap.size ≤ q → A q := fun q h => by rw [← hAe]; exact Or.inr h
  have hS : va_S A s.heap s.heap [] := va_S.rf
  have hl := lv_entry ([.ref h0]) (n := 1) (Nat.le_of_ble_eq_true rfl)
  rw [lg_entry_eq]
  generalize (lg_sl ([.ref h0]) ++ List.replicate (1 - (lg_sl ([.ref h0])).length) Slot.unset).toArray = ls at hl ⊢
  have hl : lv_has ls 1 [(0, .ref h0)] := hl
  have hP : va_P D vwCl [(h0, .inr (1, [.ref q1, .ref q2, .ref q3, .ref q4, .int n1, .int n2])), (q1, .inl (cy1, 8, .inl uF))] s.heap := hP
  refine lv_aload_n hx hb dX1_apart_0 rfl (lv_at hl 0 rfl) ?_
  refine va_get (D := D) (ci := 1) (v := .ref q1) (C := RX1) (T := TX1) (N := 6) hx hb hts inG_X1 hown hK hP 0 rfl rfl 0 (by decide) (hts _ kw_1_99) (fun _ h9 => h9) rfl dX1_apart_1 ?_
  refine lv_iconst (v := 3) hx hb dX1_apart_4 (by decide) ?_
  refine m_iald hx hb hK hP 1 0 rfl rfl 3 rfl (by decide) (by decide) dX1_apart_5 ?_
  refine lv_topi (fun v_1 ev_1 => ?_)
  obtain rfl : v_1 = (0 : Int32) := ev_1.trans rfl
  have hP9 := hP.sub (ws' := [(h0, .inr (1, [.ref q1, .ref q2, .ref q3, .ref q4, .int n1, .int n2])), (q1, .inl (cy1, 8, .inl uF))]) [0, 1] rfl
  have hD9 := hD.sub (ws' := [(h0, .inr (1, [.ref q1, .ref q2, .ref q3, .ref q4, .int n1, .int n2])), (q1, .inl (cy1, 8, .inl uF))]) [0, 1] (by decide) rfl
  have hK9 := hK.sub (tys' := []) [] rfl
  refine W.widen (k := 0) (n := 0) (by decide) (by decide) ?_
  exact W.iret (v := 0) hx hb hr (fun t ht hW => ⟨⟨0, (), rfl, rfl, by rw [ht]; exact hP9, va_K.moved hW.alike hK9, hD9⟩, hS.F ht⟩) hS.2.2 dX1_apart_6
theorem dX1_near_0 : decode cX1_near 0 = .ok (.aload_n 0, 1) := by decide +kernel
theorem dX1_near_1 : decode cX1_near 1 = .ok (.getfield 15, 3) := by decide +kernel
theorem dX1_near_4 : decode cX1_near 4 = .ok (.iconst 4, 1) := by decide +kernel
theorem dX1_near_5 : decode cX1_near 5 = .ok (.iaload, 1) := by decide +kernel
theorem dX1_near_6 : decode cX1_near 6 = .ok (.ireturn, 1) := by decide +kernel
set_option maxHeartbeats 4000000 in
set_option maxRecDepth 100000 in
theorem c_cu_near (l : Launch) (D : va_G) (h0 : Nat) (q1 : Nat) (q2 : Nat) (q3 : Nat) (q4 : Nat) (cy1 : ClassId) (n1 : Int32) (n2 : Int32) : cI l yX1_near (.code yX1_near cX1_near 1 (some .int)) ({ frames := 0, cells := 0, slots := 0, locals := 0 }) D [(cy1, .int)] [(h0, .inr (1, [.ref q1, .ref q2, .ref q3, .ref q4, .int n1, .int n2])), (q1, .inl (cy1, 8, .inl uF))] xT [.ref h0] (S := Unit) (fun r _ => r = 1) (fun _ => []) (fun _ => [(h0, .inr (1, [.ref q1, .ref q2, .ref q3, .ref q4, .int n1, .int n2])), (q1, .inl (cy1, 8, .inl uF))]) := by
  intro sz
  refine Met.ofW (cc := cX1_near) (maxL := 1) (ret := (some .int)) (by decide) rfl ?_
  intro p e s m args below meth c s₁ B hml hv
  obtain ⟨rfl, hsz, hP, hK, hD0, hX⟩ := hv
  have hx := B.exec
  have hb := B.bytes
  have hr := B.returns
  have hts0 := atoms_spec (ws := .code yX1_near cX1_near 1 (some .int) :: gw) B.pre
  have hts := fun (w : Cond) (h : w ∈ gw) => hts0 w (List.mem_cons_of_mem _ h)
  have hown : s.vm.findClass RX1 = some m.cls := findClass_of_methodNamed B.named
  have hlocks := B.notSynchronized
  have F : mFix p s m _ c cX1_near 1 RX1 := ⟨hx, hb, hml, hown, hts⟩
  subst hsz
  have hD := hD0.self (sz := s.heap.size)
  generalize hAe : va_A [(h0, .inr (1, [.ref q1, .ref q2, .ref q3, .ref q4, .int n1, .int n2])), (q1, .inl (cy1, 8, .inl uF))] s.heap.size = A at hD hX ⊢
  have hA : ∀ q : Nat, s.heap.size ≤ q → A q := fun q h => by rw [← hAe]; exact Or.inr h
  have hS : va_S A s.heap s.heap [] := va_S.rf
  have hl := lv_entry ([.ref h0]) (n := 1) (Nat.le_of_ble_eq_true rfl)
  rw [lg_entry_eq]
  generalize (lg_sl ([.ref h0]) ++ List.replicate (1 - (lg_sl ([.ref h0])).length) Slot.unset).toArray = ls at hl ⊢
  have hl : lv_has ls 1 [(0, .ref h0)] := hl
  have hP : va_P D vwCl [(h0, .inr (1, [.ref q1, .ref q2, .ref q3, .ref q4, .int n1, .int n2])), (q1, .inl (cy1, 8, .inl uF))] s.heap := hP
  refine lv_aload_n hx hb dX1_near_0 rfl (lv_at hl 0 rfl) ?_
  refine va_get (D := D) (ci := 1) (v := .ref q1) (C := RX1) (T := TX1) (N := 6) hx hb hts inG_X1 hown hK hP 0 rfl rfl 0 (by decide) (hts _ kw_1_99) (fun _ h9 => h9) rfl dX1_near_1 ?_
  refine lv_iconst (v := 4) hx hb dX1_near_4 (by decide) ?_
  refine m_iald hx hb hK hP 1 0 rfl rfl 4 rfl (by decide) (by decide) dX1_near_5 ?_
  refine lv_topi (fun v_1 ev_1 => ?_)
  obtain rfl : v_1 = (1 : Int32) := ev_1.trans rfl
  have hP9 := hP.sub (ws' := [(h0, .inr (1, [.ref q1, .ref q2, .ref q3, .ref q4, .int n1, .int n2])), (q1, .inl (cy1, 8, .inl uF))]) [0, 1] rfl
  have hD9 := hD.sub (ws' := [(h0, .inr (1, [.ref q1, .ref q2, .ref q3, .ref q4, .int n1, .int n2])), (q1, .inl (cy1, 8, .inl uF))]) [0, 1] (by decide) rfl
  have hK9 := hK.sub (tys' := []) [] rfl
  refine W.widen (k := 0) (n := 0) (by decide) (by decide) ?_
  exact W.iret (v := 1) hx hb hr (fun t ht hW => ⟨⟨1, (), rfl, rfl, by rw [ht]; exact hP9, va_K.moved hW.alike hK9, hD9⟩, hS.F ht⟩) hS.2.2 dX1_near_6
theorem dX1_heal_0 : decode cX1_heal 0 = .ok (.aload_n 0, 1) := by decide +kernel
theorem dX1_heal_1 : decode cX1_heal 1 = .ok (.getfield 15, 3) := by decide +kernel
theorem dX1_heal_4 : decode cX1_heal 4 = .ok (.iconst 5, 1) := by decide +kernel
theorem dX1_heal_5 : decode cX1_heal 5 = .ok (.iaload, 1) := by decide +kernel
theorem dX1_heal_6 : decode cX1_heal 6 = .ok (.ireturn, 1) := by decide +kernel
set_option maxHeartbeats 4000000 in
set_option maxRecDepth 100000 in
theorem c_cu_heal (l : Launch) (D : va_G) (h0 : Nat) (q1 : Nat) (q2 : Nat) (q3 : Nat) (q4 : Nat) (cy1 : ClassId) (n1 : Int32) (n2 : Int32) : cI l yX1_heal (.code yX1_heal cX1_heal 1 (some .int)) ({ frames := 0, cells := 0, slots := 0, locals := 0 }) D [(cy1, .int)] [(h0, .inr (1, [.ref q1, .ref q2, .ref q3, .ref q4, .int n1, .int n2])), (q1, .inl (cy1, 8, .inl uF))] xT [.ref h0] (S := Unit) (fun r _ => r = 99) (fun _ => []) (fun _ => [(h0, .inr (1, [.ref q1, .ref q2, .ref q3, .ref q4, .int n1, .int n2])), (q1, .inl (cy1, 8, .inl uF))]) := by
  intro sz
  refine Met.ofW (cc := cX1_heal) (maxL := 1) (ret := (some .int)) (by decide) rfl ?_
  intro p e s m args below meth c s₁ B hml hv
  obtain ⟨rfl, hsz, hP, hK, hD0, hX⟩ := hv
  have hx := B.exec
  have hb := B.bytes
  have hr := B.returns
  have hts0 := atoms_spec (ws := .code yX1_heal cX1_heal 1 (some .int) :: gw) B.pre
  have hts := fun (w : Cond) (h : w ∈ gw) => hts0 w (List.mem_cons_of_mem _ h)
  have hown : s.vm.findClass RX1 = some m.cls := findClass_of_methodNamed B.named
  have hlocks := B.notSynchronized
  have F : mFix p s m _ c cX1_heal 1 RX1 := ⟨hx, hb, hml, hown, hts⟩
  subst hsz
  have hD := hD0.self (sz := s.heap.size)
  generalize hAe : va_A [(h0, .inr (1, [.ref q1, .ref q2, .ref q3, .ref q4, .int n1, .int n2])), (q1, .inl (cy1, 8, .inl uF))] s.heap.size = A at hD hX ⊢
  have hA : ∀ q : Nat, s.heap.size ≤ q → A q := fun q h => by rw [← hAe]; exact Or.inr h
  have hS : va_S A s.heap s.heap [] := va_S.rf
  have hl := lv_entry ([.ref h0]) (n := 1) (Nat.le_of_ble_eq_true rfl)
  rw [lg_entry_eq]
  generalize (lg_sl ([.ref h0]) ++ List.replicate (1 - (lg_sl ([.ref h0])).length) Slot.unset).toArray = ls at hl ⊢
  have hl : lv_has ls 1 [(0, .ref h0)] := hl
  have hP : va_P D vwCl [(h0, .inr (1, [.ref q1, .ref q2, .ref q3, .ref q4, .int n1, .int n2])), (q1, .inl (cy1, 8, .inl uF))] s.heap := hP
  refine lv_aload_n hx hb dX1_heal_0 rfl (lv_at hl 0 rfl) ?_
  refine va_get (D := D) (ci := 1) (v := .ref q1) (C := RX1) (T := TX1) (N := 6) hx hb hts inG_X1 hown hK hP 0 rfl rfl 0 (by decide) (hts _ kw_1_99) (fun _ h9 => h9) rfl dX1_heal_1 ?_
  refine lv_iconst (v := 5) hx hb dX1_heal_4 (by decide) ?_
  refine m_iald hx hb hK hP 1 0 rfl rfl 5 rfl (by decide) (by decide) dX1_heal_5 ?_
  refine lv_topi (fun v_1 ev_1 => ?_)
  obtain rfl : v_1 = (99 : Int32) := ev_1.trans rfl
  have hP9 := hP.sub (ws' := [(h0, .inr (1, [.ref q1, .ref q2, .ref q3, .ref q4, .int n1, .int n2])), (q1, .inl (cy1, 8, .inl uF))]) [0, 1] rfl
  have hD9 := hD.sub (ws' := [(h0, .inr (1, [.ref q1, .ref q2, .ref q3, .ref q4, .int n1, .int n2])), (q1, .inl (cy1, 8, .inl uF))]) [0, 1] (by decide) rfl
  have hK9 := hK.sub (tys' := []) [] rfl
  refine W.widen (k := 0) (n := 0) (by decide) (by decide) ?_
  exact W.iret (v := 99) hx hb hr (fun t ht hW => ⟨⟨99, (), rfl, rfl, by rw [ht]; exact hP9, va_K.moved hW.alike hK9, hD9⟩, hS.F ht⟩) hS.2.2 dX1_heal_6
theorem dX1_feeByWeight_0 : decode cX1_feeByWeight 0 = .ok (.aload_n 0, 1) := by decide +kernel
theorem dX1_feeByWeight_1 : decode cX1_feeByWeight 1 = .ok (.getfield 15, 3) := by decide +kernel
theorem dX1_feeByWeight_4 : decode cX1_feeByWeight 4 = .ok (.bipush 6, 2) := by decide +kernel
theorem dX1_feeByWeight_6 : decode cX1_feeByWeight 6 = .ok (.iaload, 1) := by decide +kernel
theorem dX1_feeByWeight_7 : decode cX1_feeByWeight 7 = .ok (.ireturn, 1) := by decide +kernel
set_option maxHeartbeats 4000000 in
set_option maxRecDepth 100000 in
theorem c_cu_feeByWeight (l : Launch) (D : va_G) (h0 : Nat) (q1 : Nat) (q2 : Nat) (q3 : Nat) (q4 : Nat) (cy1 : ClassId) (n1 : Int32) (n2 : Int32) : cI l yX1_feeByWeight (.code yX1_feeByWeight cX1_feeByWeight 1 (some .int)) ({ frames := 0, cells := 0, slots := 0, locals := 0 }) D [(cy1, .int)] [(h0, .inr (1, [.ref q1, .ref q2, .ref q3, .ref q4, .int n1, .int n2])), (q1, .inl (cy1, 8, .inl uF))] xT [.ref h0] (S := Unit) (fun r _ => r = 1) (fun _ => []) (fun _ => [(h0, .inr (1, [.ref q1, .ref q2, .ref q3, .ref q4, .int n1, .int n2])), (q1, .inl (cy1, 8, .inl uF))]) := by
  intro sz
  refine Met.ofW (cc := cX1_feeByWeight) (maxL := 1) (ret := (some .int)) (by decide) rfl ?_
  intro p e s m args below meth c s₁ B hml hv
  obtain ⟨rfl, hsz, hP, hK, hD0, hX⟩ := hv
  have hx := B.exec
  have hb := B.bytes
  have hr := B.returns
  have hts0 := atoms_spec (ws := .code yX1_feeByWeight cX1_feeByWeight 1 (some .int) :: gw) B.pre
  have hts := fun (w : Cond) (h : w ∈ gw) => hts0 w (List.mem_cons_of_mem _ h)
  have hown : s.vm.findClass RX1 = some m.cls := findClass_of_methodNamed B.named
  have hlocks := B.notSynchronized
  have F : mFix p s m _ c cX1_feeByWeight 1 RX1 := ⟨hx, hb, hml, hown, hts⟩
  subst hsz
  have hD := hD0.self (sz := s.heap.size)
  generalize hAe : va_A [(h0, .inr (1, [.ref q1, .ref q2, .ref q3, .ref q4, .int n1, .int n2])), (q1, .inl (cy1, 8, .inl uF))] s.heap.size = A at hD hX ⊢
  have hA : ∀ q : Nat, s.heap.size ≤ q → A q := fun q h => by rw [← hAe]; exact Or.inr h
  have hS : va_S A s.heap s.heap [] := va_S.rf
  have hl := lv_entry ([.ref h0]) (n := 1) (Nat.le_of_ble_eq_true rfl)
  rw [lg_entry_eq]
  generalize (lg_sl ([.ref h0]) ++ List.replicate (1 - (lg_sl ([.ref h0])).length) Slot.unset).toArray = ls at hl ⊢
  have hl : lv_has ls 1 [(0, .ref h0)] := hl
  have hP : va_P D vwCl [(h0, .inr (1, [.ref q1, .ref q2, .ref q3, .ref q4, .int n1, .int n2])), (q1, .inl (cy1, 8, .inl uF))] s.heap := hP
  refine lv_aload_n hx hb dX1_feeByWeight_0 rfl (lv_at hl 0 rfl) ?_
  refine va_get (D := D) (ci := 1) (v := .ref q1) (C := RX1) (T := TX1) (N := 6) hx hb hts inG_X1 hown hK hP 0 rfl rfl 0 (by decide) (hts _ kw_1_99) (fun _ h9 => h9) rfl dX1_feeByWeight_1 ?_
  refine lv_bipush (v := 6) hx hb dX1_feeByWeight_4 (by decide) ?_
  refine m_iald hx hb hK hP 1 0 rfl rfl 6 rfl (by decide) (by decide) dX1_feeByWeight_6 ?_
  refine lv_topi (fun v_1 ev_1 => ?_)
  obtain rfl : v_1 = (1 : Int32) := ev_1.trans rfl
  have hP9 := hP.sub (ws' := [(h0, .inr (1, [.ref q1, .ref q2, .ref q3, .ref q4, .int n1, .int n2])), (q1, .inl (cy1, 8, .inl uF))]) [0, 1] rfl
  have hD9 := hD.sub (ws' := [(h0, .inr (1, [.ref q1, .ref q2, .ref q3, .ref q4, .int n1, .int n2])), (q1, .inl (cy1, 8, .inl uF))]) [0, 1] (by decide) rfl
  have hK9 := hK.sub (tys' := []) [] rfl
  refine W.widen (k := 0) (n := 0) (by decide) (by decide) ?_
  exact W.iret (v := 1) hx hb hr (fun t ht hW => ⟨⟨1, (), rfl, rfl, by rw [ht]; exact hP9, va_K.moved hW.alike hK9, hD9⟩, hS.F ht⟩) hS.2.2 dX1_feeByWeight_7
theorem dX1_feeForFire_0 : decode cX1_feeForFire 0 = .ok (.aload_n 0, 1) := by decide +kernel
theorem dX1_feeForFire_1 : decode cX1_feeForFire 1 = .ok (.getfield 15, 3) := by decide +kernel
theorem dX1_feeForFire_4 : decode cX1_feeForFire 4 = .ok (.bipush 7, 2) := by decide +kernel
theorem dX1_feeForFire_6 : decode cX1_feeForFire 6 = .ok (.iaload, 1) := by decide +kernel
theorem dX1_feeForFire_7 : decode cX1_feeForFire 7 = .ok (.ireturn, 1) := by decide +kernel
set_option maxHeartbeats 4000000 in
set_option maxRecDepth 100000 in
theorem c_cu_feeForFire (l : Launch) (D : va_G) (h0 : Nat) (q1 : Nat) (q2 : Nat) (q3 : Nat) (q4 : Nat) (cy1 : ClassId) (n1 : Int32) (n2 : Int32) : cI l yX1_feeForFire (.code yX1_feeForFire cX1_feeForFire 1 (some .int)) ({ frames := 0, cells := 0, slots := 0, locals := 0 }) D [(cy1, .int)] [(h0, .inr (1, [.ref q1, .ref q2, .ref q3, .ref q4, .int n1, .int n2])), (q1, .inl (cy1, 8, .inl uF))] xT [.ref h0] (S := Unit) (fun r _ => r = 0) (fun _ => []) (fun _ => [(h0, .inr (1, [.ref q1, .ref q2, .ref q3, .ref q4, .int n1, .int n2])), (q1, .inl (cy1, 8, .inl uF))]) := by
  intro sz
  refine Met.ofW (cc := cX1_feeForFire) (maxL := 1) (ret := (some .int)) (by decide) rfl ?_
  intro p e s m args below meth c s₁ B hml hv
  obtain ⟨rfl, hsz, hP, hK, hD0, hX⟩ := hv
  have hx := B.exec
  have hb := B.bytes
  have hr := B.returns
  have hts0 := atoms_spec (ws := .code yX1_feeForFire cX1_feeForFire 1 (some .int) :: gw) B.pre
  have hts := fun (w : Cond) (h : w ∈ gw) => hts0 w (List.mem_cons_of_mem _ h)
  have hown : s.vm.findClass RX1 = some m.cls := findClass_of_methodNamed B.named
  have hlocks := B.notSynchronized
  have F : mFix p s m _ c cX1_feeForFire 1 RX1 := ⟨hx, hb, hml, hown, hts⟩
  subst hsz
  have hD := hD0.self (sz := s.heap.size)
  generalize hAe : va_A [(h0, .inr (1, [.ref q1, .ref q2, .ref q3, .ref q4, .int n1, .int n2])), (q1, .inl (cy1, 8, .inl uF))] s.heap.size = A at hD hX ⊢
  have hA : ∀ q : Nat, s.heap.size ≤ q → A q := fun q h => by rw [← hAe]; exact Or.inr h
  have hS : va_S A s.heap s.heap [] := va_S.rf
  have hl := lv_entry ([.ref h0]) (n := 1) (Nat.le_of_ble_eq_true rfl)
  rw [lg_entry_eq]
  generalize (lg_sl ([.ref h0]) ++ List.replicate (1 - (lg_sl ([.ref h0])).length) Slot.unset).toArray = ls at hl ⊢
  have hl : lv_has ls 1 [(0, .ref h0)] := hl
  have hP : va_P D vwCl [(h0, .inr (1, [.ref q1, .ref q2, .ref q3, .ref q4, .int n1, .int n2])), (q1, .inl (cy1, 8, .inl uF))] s.heap := hP
  refine lv_aload_n hx hb dX1_feeForFire_0 rfl (lv_at hl 0 rfl) ?_
  refine va_get (D := D) (ci := 1) (v := .ref q1) (C := RX1) (T := TX1) (N := 6) hx hb hts inG_X1 hown hK hP 0 rfl rfl 0 (by decide) (hts _ kw_1_99) (fun _ h9 => h9) rfl dX1_feeForFire_1 ?_
  refine lv_bipush (v := 7) hx hb dX1_feeForFire_4 (by decide) ?_
  refine m_iald hx hb hK hP 1 0 rfl rfl 7 rfl (by decide) (by decide) dX1_feeForFire_6 ?_
  refine lv_topi (fun v_1 ev_1 => ?_)
  obtain rfl : v_1 = (0 : Int32) := ev_1.trans rfl
  have hP9 := hP.sub (ws' := [(h0, .inr (1, [.ref q1, .ref q2, .ref q3, .ref q4, .int n1, .int n2])), (q1, .inl (cy1, 8, .inl uF))]) [0, 1] rfl
  have hD9 := hD.sub (ws' := [(h0, .inr (1, [.ref q1, .ref q2, .ref q3, .ref q4, .int n1, .int n2])), (q1, .inl (cy1, 8, .inl uF))]) [0, 1] (by decide) rfl
  have hK9 := hK.sub (tys' := []) [] rfl
  refine W.widen (k := 0) (n := 0) (by decide) (by decide) ?_
  exact W.iret (v := 0) hx hb hr (fun t ht hW => ⟨⟨0, (), rfl, rfl, by rw [ht]; exact hP9, va_K.moved hW.alike hK9, hD9⟩, hS.F ht⟩) hS.2.2 dX1_feeForFire_7
theorem dX6_withinBounds_0 : decode cX6_withinBounds 0 = .ok (.iconst 0, 1) := by decide +kernel
theorem dX6_withinBounds_1 : decode cX6_withinBounds 1 = .ok (.bipush 99, 2) := by decide +kernel
theorem dX6_withinBounds_3 : decode cX6_withinBounds 3 = .ok (.iload_n 0, 1) := by decide +kernel
theorem kw_3_166 : Cond.methodLink RX6 61 Lib.Math.min.name ∈ gw := gw_t3 (List.mem_of_getElem? (i := 166) (by decide +kernel)) (by decide +kernel)
theorem kw_2_129 : Cond.static Lib.Math.min.name ∈ gw := gw_t2 (List.mem_of_getElem? (i := 129) (by decide +kernel)) (by decide +kernel)
theorem kw_1_12 : Cond.initialized RJ9 ∈ gw := gw_t1 (List.mem_of_getElem? (i := 12) (by decide +kernel)) (by decide +kernel)
theorem kw_2_130 : Cond.code Lib.Math.min.name Lib.Math.min.code 2 (some .int) ∈ gw := gw_t2 (List.mem_of_getElem? (i := 130) (by decide +kernel)) (by decide +kernel)
theorem dX6_withinBounds_4 : decode cX6_withinBounds 4 = .ok (.invokestatic 61, 3) := by decide +kernel
theorem kw_3_167 : Cond.methodLink RX6 66 Lib.Math.max.name ∈ gw := gw_t3 (List.mem_of_getElem? (i := 167) (by decide +kernel)) (by decide +kernel)
theorem kw_3_83 : Cond.static Lib.Math.max.name ∈ gw := gw_t3 (List.mem_of_getElem? (i := 83) (by decide +kernel)) (by decide +kernel)
theorem kw_3_84 : Cond.code Lib.Math.max.name Lib.Math.max.code 2 (some .int) ∈ gw := gw_t3 (List.mem_of_getElem? (i := 84) (by decide +kernel)) (by decide +kernel)
theorem dX6_withinBounds_7 : decode cX6_withinBounds 7 = .ok (.invokestatic 66, 3) := by decide +kernel
theorem dX6_withinBounds_10 : decode cX6_withinBounds 10 = .ok (.ireturn, 1) := by decide +kernel
set_option maxHeartbeats 4000000 in
set_option maxRecDepth 100000 in
theorem c_within (l : Launch) (D : va_G) (t1 : Int32) : cI l yX6_withinBounds (.code yX6_withinBounds cX6_withinBounds 1 (some .int)) ({ frames := 1, cells := 0, slots := 0, locals := 60 }) D [] [] xT [.int t1] (S := Unit) (fun r _ => r = r) (fun _ => []) (fun _ => []) := by
  intro sz
  refine Met.ofW (cc := cX6_withinBounds) (maxL := 1) (ret := (some .int)) (by decide) rfl ?_
  intro p e s m args below meth c s₁ B hml hv
  obtain ⟨rfl, hsz, hP, hK, hD0, hX⟩ := hv
  have hx := B.exec
  have hb := B.bytes
  have hr := B.returns
  have hts0 := atoms_spec (ws := .code yX6_withinBounds cX6_withinBounds 1 (some .int) :: gw) B.pre
  have hts := fun (w : Cond) (h : w ∈ gw) => hts0 w (List.mem_cons_of_mem _ h)
  have hown : s.vm.findClass RX6 = some m.cls := findClass_of_methodNamed B.named
  have hlocks := B.notSynchronized
  have F : mFix p s m _ c cX6_withinBounds 1 RX6 := ⟨hx, hb, hml, hown, hts⟩
  subst hsz
  have hD := hD0.self (sz := s.heap.size)
  generalize hAe : va_A [] s.heap.size = A at hD hX ⊢
  have hA : ∀ q : Nat, s.heap.size ≤ q → A q := fun q h => by rw [← hAe]; exact Or.inr h
  have hS : va_S A s.heap s.heap [] := va_S.rf
  have hl := lv_entry ([.int t1]) (n := 1) (Nat.le_of_ble_eq_true rfl)
  rw [lg_entry_eq]
  generalize (lg_sl ([.int t1]) ++ List.replicate (1 - (lg_sl ([.int t1])).length) Slot.unset).toArray = ls at hl ⊢
  have hl : lv_has ls 1 [(0, .int t1)] := hl
  have hP : va_P D vwCl [] s.heap := hP
  refine lv_iconst (v := 0) hx hb dX6_withinBounds_0 (by decide) ?_
  refine lv_bipush (v := 99) hx hb dX6_withinBounds_1 (by decide) ?_
  refine lv_iload_n hx hb dX6_withinBounds_3 rfl (lv_at hl 0 rfl) ?_
  refine va_mmin hx hb (by rw [hml]; exact hl.1.symm) hown (hts _ kw_3_166) (hts _ kw_2_129) (hts _ kw_1_12) (hts _ kw_2_130) (Nat.le_of_ble_eq_true rfl) (Nat.le_of_ble_eq_true rfl) (Nat.le_of_ble_eq_true rfl) (Nat.le_of_ble_eq_true rfl) dX6_withinBounds_4 ?_
  refine lv_topi (fun z_1 ez_1 => ?_)
  refine va_mmax hx hb (by rw [hml]; exact hl.1.symm) hown (hts _ kw_3_167) (hts _ kw_3_83) (hts _ kw_1_12) (hts _ kw_3_84) (Nat.le_of_ble_eq_true rfl) (Nat.le_of_ble_eq_true rfl) (Nat.le_of_ble_eq_true rfl) (Nat.le_of_ble_eq_true rfl) dX6_withinBounds_7 ?_
  refine lv_topi (fun z_2 ez_2 => ?_)
  have hP9 := hP.sub (ws' := []) [] rfl
  have hD9 := hD.sub (ws' := []) [] (by decide) rfl
  have hK9 := hK.sub (tys' := []) [] rfl
  refine W.widen (k := 0) (n := 0) (by decide) (by decide) ?_
  exact W.iret (v := z_2) hx hb hr (fun t ht hW => ⟨⟨z_2, (), rfl, rfl, by rw [ht]; exact hP9, va_K.moved hW.alike hK9, hD9⟩, hS.F ht⟩) hS.2.2 dX6_withinBounds_10
theorem dX6_guestAt_0 : decode cX6_guestAt 0 = .ok (.aload_n 0, 1) := by decide +kernel
theorem dX6_guestAt_1 : decode cX6_guestAt 1 = .ok (.iload_n 1, 1) := by decide +kernel
theorem dX6_guestAt_2 : decode cX6_guestAt 2 = .ok (.iload_n 2, 1) := by decide +kernel
theorem dX6_guestAt_3 : decode cX6_guestAt 3 = .ok (.invokevirtual 42, 3) := by decide +kernel
theorem dX6_guestAt_6 : decode cX6_guestAt 6 = .ok (.ifCond .eq 17, 3) := by decide +kernel
theorem dX6_guestAt_23 : decode cX6_guestAt 23 = .ok (.iconst (-1), 1) := by decide +kernel
theorem dX6_guestAt_24 : decode cX6_guestAt 24 = .ok (.ireturn, 1) := by decide +kernel
theorem dX6_guestAt_9 : decode cX6_guestAt 9 = .ok (.aload_n 0, 1) := by decide +kernel
theorem dX6_guestAt_10 : decode cX6_guestAt 10 = .ok (.getfield 21, 3) := by decide +kernel
theorem dX6_guestAt_13 : decode cX6_guestAt 13 = .ok (.aload_n 0, 1) := by decide +kernel
theorem dX6_guestAt_14 : decode cX6_guestAt 14 = .ok (.iload_n 1, 1) := by decide +kernel
theorem dX6_guestAt_15 : decode cX6_guestAt 15 = .ok (.iload_n 2, 1) := by decide +kernel
theorem dX6_guestAt_16 : decode cX6_guestAt 16 = .ok (.invokevirtual 46, 3) := by decide +kernel
theorem dX6_guestAt_19 : decode cX6_guestAt 19 = .ok (.iaload, 1) := by decide +kernel
theorem dX6_guestAt_20 : decode cX6_guestAt 20 = .ok (.goto 4, 3) := by decide +kernel
set_option maxHeartbeats 4000000 in
set_option maxRecDepth 100000 in
theorem c_guestAt (l : Launch) (D : va_G) (h0 : Nat) (q1 : Nat) (q2 : Nat) (q3 : Nat) (q4 : Nat) (q5 : Nat) (q6 : Nat) (cy4 : ClassId) (f4 : Nat → Int32) (w : Nat) (h : Nat) (x : Int32) (y : Int32) (h3 : w ≤ 10) (h4 : h ≤ 10) : cI l yX6_guestAt (.code yX6_guestAt cX6_guestAt 3 (some .int)) ({ frames := 1, cells := 0, slots := 0, locals := 22 }) D [(cy4, .int)] [(h0, .inr (5, [.int (nI w), .int (nI h), .ref q1, .ref q2, .ref q3, .ref q4, .ref q5, .ref q6])), (q4, .inl (cy4, 100, .inl f4))] xT [.ref h0, .int x, .int y] (S := Unit) (fun r _ => r = r) (fun _ => []) (fun _ => [(h0, .inr (5, [.int (nI w), .int (nI h), .ref q1, .ref q2, .ref q3, .ref q4, .ref q5, .ref q6])), (q4, .inl (cy4, 100, .inl f4))]) := by
  intro sz
  refine Met.ofW (cc := cX6_guestAt) (maxL := 3) (ret := (some .int)) (by decide) rfl ?_
  intro p e s m args below meth c s₁ B hml hv
  obtain ⟨rfl, hsz, hP, hK, hD0, hX⟩ := hv
  have hx := B.exec
  have hb := B.bytes
  have hr := B.returns
  have hts0 := atoms_spec (ws := .code yX6_guestAt cX6_guestAt 3 (some .int) :: gw) B.pre
  have hts := fun (w : Cond) (h : w ∈ gw) => hts0 w (List.mem_cons_of_mem _ h)
  have hown : s.vm.findClass RX6 = some m.cls := findClass_of_methodNamed B.named
  have hlocks := B.notSynchronized
  have F : mFix p s m _ c cX6_guestAt 3 RX6 := ⟨hx, hb, hml, hown, hts⟩
  subst hsz
  have hD := hD0.self (sz := s.heap.size)
  generalize hAe : va_A [(h0, .inr (5, [.int (nI w), .int (nI h), .ref q1, .ref q2, .ref q3, .ref q4, .ref q5, .ref q6])), (q4, .inl (cy4, 100, .inl f4))] s.heap.size = A at hD hX ⊢
  have hA : ∀ q : Nat, s.heap.size ≤ q → A q := fun q h => by rw [← hAe]; exact Or.inr h
  have hS : va_S A s.heap s.heap [] := va_S.rf
  have hl := lv_entry ([.ref h0, .int x, .int y]) (n := 3) (Nat.le_of_ble_eq_true rfl)
  rw [lg_entry_eq]
  generalize (lg_sl ([.ref h0, .int x, .int y]) ++ List.replicate (3 - (lg_sl ([.ref h0, .int x, .int y])).length) Slot.unset).toArray = ls at hl ⊢
  have hl : lv_has ls 3 [(0, .ref h0), (1, .int x), (2, .int y)] := hl
  have hP : va_P D vwCl [(h0, .inr (5, [.int (nI w), .int (nI h), .ref q1, .ref q2, .ref q3, .ref q4, .ref q5, .ref q6])), (q4, .inl (cy4, 100, .inl f4))] s.heap := hP
  refine lv_aload_n hx hb dX6_guestAt_0 rfl (lv_at hl 0 rfl) ?_
  refine lv_iload_n hx hb dX6_guestAt_1 rfl (lv_at hl 1 rfl) ?_
  refine lv_iload_n hx hb dX6_guestAt_2 rfl (lv_at hl 2 rfl) ?_
  refine mc_Vi (rest := []) (wr := [(q4, .inl (cy4, 100, .inl f4))]) F hK hP hD hS hA (c_has_any l D h0 q1 q2 q3 q4 q5 q6 w h x y (by omega) (by omega)) ⟨gk_X6_42.1, gk_X6_42.2, Nat.le_of_ble_eq_true rfl, Nat.le_of_ble_eq_true rfl⟩ [0] [1] [] ⟨rfl, rfl, rfl, rfl, by decide⟩ rfl xT_move (fun _ _ _ => trivial) 0 rfl rfl rfl hl.1 rfl (Nat.le_of_ble_eq_true rfl) dX6_guestAt_3 ⟨Nat.le_of_ble_eq_true rfl, Nat.le_of_ble_eq_true rfl⟩ (fun r_1 _ H locs hw hK1 hP hD hS => ?_)
  have hP : va_P D vwCl [(q4, .inl (cy4, 100, .inl f4)), (h0, .inr (5, [.int (nI w), .int (nI h), .ref q1, .ref q2, .ref q3, .ref q4, .ref q5, .ref q6]))] H := hP
  have hD : va_D A [(q4, .inl (cy4, 100, .inl f4)), (h0, .inr (5, [.int (nI w), .int (nI h), .ref q1, .ref q2, .ref q3, .ref q4, .ref q5, .ref q6]))] := hD
  have hw_2 : r_1 = (if (x < 0 ∨ ¬ x < nI w ∨ y < 0 ∨ ¬ y < nI h) then 0 else 1) := hw
  by_cases ho_3 : (x < 0 ∨ ¬ x < nI w ∨ y < 0 ∨ ¬ y < nI h)
  · skip
    obtain rfl : r_1 = 0 := by rw [hw_2, if_pos ho_3]
    refine lv_if_eq (tgt := 23) hx hb dX6_guestAt_6 (by decide) (fun c_4 => ?_) (fun c_4 => absurd c_4 (by decide))
    refine lv_iconst (v := -1) hx hb dX6_guestAt_23 (by decide) ?_
    have hP9 := hP.sub (ws' := [(h0, .inr (5, [.int (nI w), .int (nI h), .ref q1, .ref q2, .ref q3, .ref q4, .ref q5, .ref q6])), (q4, .inl (cy4, 100, .inl f4))]) [1, 0] rfl
    have hD9 := hD.sub (ws' := [(h0, .inr (5, [.int (nI w), .int (nI h), .ref q1, .ref q2, .ref q3, .ref q4, .ref q5, .ref q6])), (q4, .inl (cy4, 100, .inl f4))]) [1, 0] (by decide) rfl
    have hK9 := hK.sub (tys' := []) [] rfl
    refine W.widen (k := 0) (n := 0) (by decide) (by decide) ?_
    exact W.iret (v := (-1)) hx hb hr (fun t ht hW => ⟨⟨((-1)), (), rfl, rfl, by rw [ht]; exact hP9, va_K.moved hW.alike hK9, hD9⟩, hS.F ht⟩) hS.2.2 dX6_guestAt_24
  · skip
    obtain rfl : r_1 = 1 := by rw [hw_2, if_neg ho_3]
    obtain ⟨i_5, hi_5, ei_5⟩ : ∃ j : Nat, j < w ∧ x = nI j := n_lt (fun q => ho_3 (Or.inl q)) (fun q => ho_3 (Or.inr (Or.inl (Int32.not_lt.mpr q)))) (by omega)
    obtain ⟨j_6, hj_6, ej_6⟩ : ∃ j : Nat, j < h ∧ y = nI j := n_lt (fun q => ho_3 (Or.inr (Or.inr (Or.inl q)))) (fun q => ho_3 (Or.inr (Or.inr (Or.inr (Int32.not_lt.mpr q))))) (by omega)
    subst ei_5
    subst ej_6
    have hl : lv_has ls 3 [(0, .ref h0), (1, .int (nI i_5)), (2, .int (nI j_6))] := hl
    refine lv_if_eq (tgt := 23) hx hb dX6_guestAt_6 (by decide) (fun c_7 => absurd c_7 (by decide)) (fun c_7 => ?_)
    refine lv_aload_n hx hb dX6_guestAt_9 rfl (lv_at hl 0 rfl) ?_
    refine va_get (D := D) (ci := 5) (v := .ref q4) (C := RX6) (T := TX6) (N := 8) hx hb hts inG_X6 hown hK hP 1 rfl rfl 5 (by decide) (hts _ kw_1_154) (fun _ h9 => h9) rfl dX6_guestAt_10 ?_
    refine lv_aload_n hx hb dX6_guestAt_13 rfl (lv_at hl 0 rfl) ?_
    refine lv_iload_n hx hb dX6_guestAt_14 rfl (lv_at hl 1 rfl) ?_
    refine lv_iload_n hx hb dX6_guestAt_15 rfl (lv_at hl 2 rfl) ?_
    refine mc_Vi (rest := [.ref q4]) (wr := [(q4, .inl (cy4, 100, .inl f4))]) F hK hP hD hS hA (c_spotOf l D h0 q1 q2 q3 q4 q5 q6 w h i_5 j_6 ) ⟨gk_X6_46.1, gk_X6_46.2, Nat.le_of_ble_eq_true rfl, Nat.le_of_ble_eq_true rfl⟩ [1] [0] [] ⟨rfl, rfl, rfl, rfl, by decide⟩ rfl xT_move (fun _ _ _ => trivial) 1 rfl rfl rfl hl.1 rfl (Nat.le_of_ble_eq_true rfl) dX6_guestAt_16 ⟨Nat.le_of_ble_eq_true rfl, Nat.le_of_ble_eq_true rfl⟩ (fun r_8 _ H locs hw hK1 hP hD hS => ?_)
    have hP : va_P D vwCl [(q4, .inl (cy4, 100, .inl f4)), (h0, .inr (5, [.int (nI w), .int (nI h), .ref q1, .ref q2, .ref q3, .ref q4, .ref q5, .ref q6]))] H := hP
    have hD : va_D A [(q4, .inl (cy4, 100, .inl f4)), (h0, .inr (5, [.int (nI w), .int (nI h), .ref q1, .ref q2, .ref q3, .ref q4, .ref q5, .ref q6]))] := hD
    have hw_9 : r_8 = nI (j_6 * 10 + i_5) := hw
    obtain rfl : r_8 = nI (j_6 * 10 + i_5) := hw_9
    refine m_iald hx hb hK hP 0 0 rfl rfl (j_6 * 10 + i_5) rfl (by omega) (by decide) dX6_guestAt_19 ?_
    refine lv_topi (fun v_10 ev_10 => ?_)
    refine lv_goto (tgt := 24) hx hb dX6_guestAt_20 (by decide) ?_
    have hP9 := hP.sub (ws' := [(h0, .inr (5, [.int (nI w), .int (nI h), .ref q1, .ref q2, .ref q3, .ref q4, .ref q5, .ref q6])), (q4, .inl (cy4, 100, .inl f4))]) [1, 0] rfl
    have hD9 := hD.sub (ws' := [(h0, .inr (5, [.int (nI w), .int (nI h), .ref q1, .ref q2, .ref q3, .ref q4, .ref q5, .ref q6])), (q4, .inl (cy4, 100, .inl f4))]) [1, 0] (by decide) rfl
    have hK9 := hK.sub (tys' := []) [] rfl
    refine W.widen (k := 0) (n := 0) (by decide) (by decide) ?_
    exact W.iret (v := v_10) hx hb hr (fun t ht hW => ⟨⟨v_10, (), rfl, rfl, by rw [ht]; exact hP9, va_K.moved hW.alike hK9, hD9⟩, hS.F ht⟩) hS.2.2 dX6_guestAt_24
theorem dX6_thicken_0 : decode cX6_thicken 0 = .ok (.aload_n 0, 1) := by decide +kernel
theorem dX6_thicken_1 : decode cX6_thicken 1 = .ok (.iload_n 1, 1) := by decide +kernel
theorem dX6_thicken_2 : decode cX6_thicken 2 = .ok (.iload_n 2, 1) := by decide +kernel
theorem dX6_thicken_3 : decode cX6_thicken 3 = .ok (.invokevirtual 42, 3) := by decide +kernel
theorem dX6_thicken_6 : decode cX6_thicken 6 = .ok (.ifCond .eq 41, 3) := by decide +kernel
theorem dX6_thicken_9 : decode cX6_thicken 9 = .ok (.aload_n 0, 1) := by decide +kernel
theorem dX6_thicken_10 : decode cX6_thicken 10 = .ok (.iload_n 1, 1) := by decide +kernel
theorem dX6_thicken_11 : decode cX6_thicken 11 = .ok (.iload_n 2, 1) := by decide +kernel
theorem dX6_thicken_12 : decode cX6_thicken 12 = .ok (.invokevirtual 46, 3) := by decide +kernel
theorem dX6_thicken_15 : decode cX6_thicken 15 = .ok (.istore 4, 2) := by decide +kernel
theorem dX6_thicken_17 : decode cX6_thicken 17 = .ok (.aload_n 0, 1) := by decide +kernel
theorem dX6_thicken_18 : decode cX6_thicken 18 = .ok (.iload_n 1, 1) := by decide +kernel
theorem dX6_thicken_19 : decode cX6_thicken 19 = .ok (.iload_n 2, 1) := by decide +kernel
theorem dX6_thicken_20 : decode cX6_thicken 20 = .ok (.aload_n 0, 1) := by decide +kernel
theorem dX6_thicken_21 : decode cX6_thicken 21 = .ok (.getfield 9, 3) := by decide +kernel
theorem dX6_thicken_24 : decode cX6_thicken 24 = .ok (.iload 4, 2) := by decide +kernel
theorem dX6_thicken_26 : decode cX6_thicken 26 = .ok (.iaload, 1) := by decide +kernel
theorem dX6_thicken_27 : decode cX6_thicken 27 = .ok (.iload_n 3, 1) := by decide +kernel
theorem dX6_thicken_28 : decode cX6_thicken 28 = .ok (.iadd, 1) := by decide +kernel
theorem kw_3_163 : Cond.methodLink RX6 53 yX6_withinBounds ∈ gw := gw_t3 (List.mem_of_getElem? (i := 163) (by decide +kernel)) (by decide +kernel)
theorem kw_3_164 : Cond.static yX6_withinBounds ∈ gw := gw_t3 (List.mem_of_getElem? (i := 164) (by decide +kernel)) (by decide +kernel)
theorem kw_3_165 : Cond.code yX6_withinBounds cX6_withinBounds 1 (some .int) ∈ gw := gw_t3 (List.mem_of_getElem? (i := 165) (by decide +kernel)) (by decide +kernel)
theorem gk_X6_53 : GoodIn gw (wsS RX6 53 yX6_withinBounds (.code yX6_withinBounds cX6_withinBounds 1 (some .int) :: gw)) ∧ (yX6_withinBounds.cls = RX6 ∧ yX6_withinBounds.cls ≠ "java/lang/invoke/MethodHandle" ∧ yX6_withinBounds.cls ≠ "java/lang/invoke/VarHandle" ∧ (parseMethodDescriptor yX6_withinBounds.desc).map (fun d => d.parameters.length) = some 1) := ⟨gi_S kw_3_163 kw_3_164 kw_1_7 kw_3_165, by decide +kernel⟩
theorem dX6_thicken_29 : decode cX6_thicken 29 = .ok (.invokestatic 53, 3) := by decide +kernel
theorem dX6_thicken_32 : decode cX6_thicken 32 = .ok (.aload_n 0, 1) := by decide +kernel
theorem dX6_thicken_33 : decode cX6_thicken 33 = .ok (.getfield 15, 3) := by decide +kernel
theorem dX6_thicken_36 : decode cX6_thicken 36 = .ok (.iload 4, 2) := by decide +kernel
theorem dX6_thicken_38 : decode cX6_thicken 38 = .ok (.iaload, 1) := by decide +kernel
theorem dX6_thicken_39 : decode cX6_thicken 39 = .ok (.iload_n 3, 1) := by decide +kernel
theorem dX6_thicken_40 : decode cX6_thicken 40 = .ok (.iadd, 1) := by decide +kernel
theorem dX6_thicken_41 : decode cX6_thicken 41 = .ok (.invokestatic 53, 3) := by decide +kernel
theorem kw_3_168 : Cond.methodLink RX6 57 yX6_makeThick ∈ gw := gw_t3 (List.mem_of_getElem? (i := 168) (by decide +kernel)) (by decide +kernel)
theorem gk_X6_57 : GoodIn gw (wsV RX6 57 RX6 yX6_makeThick (.code yX6_makeThick cX6_makeThick 5 none :: gw)) ∧ (yX6_makeThick.cls = RX6 ∧ yX6_makeThick.cls ≠ "java/lang/invoke/MethodHandle" ∧ yX6_makeThick.cls ≠ "java/lang/invoke/VarHandle" ∧ (parseMethodDescriptor yX6_makeThick.desc).map (fun d => d.parameters.length) = some 4) := ⟨gi_V kw_3_168 kw_3_11 kw_3_12 kw_1_7 kw_3_13, by decide +kernel⟩
theorem dX6_thicken_44 : decode cX6_thicken 44 = .ok (.invokevirtual 57, 3) := by decide +kernel
theorem dX6_thicken_47 : decode cX6_thicken 47 = .ok (.return_, 1) := by decide +kernel
set_option maxHeartbeats 4000000 in
set_option maxRecDepth 100000 in
theorem c_thicken (l : Launch) (D : va_G) (h0 : Nat) (q1 : Nat) (q2 : Nat) (q3 : Nat) (q4 : Nat) (q5 : Nat) (q6 : Nat) (cy1 : ClassId) (cy2 : ClassId) (cy3 : ClassId) (cy4 : ClassId) (cy5 : ClassId) (cy6 : ClassId) (f1 : Nat → Int32) (f2 : Nat → Int32) (f3 : Nat → Int32) (f4 : Nat → Int32) (f5 : Nat → Int32) (f6 : Nat → Int32) (w : Nat) (h : Nat) (i : Nat) (j : Nat) (ch : Int32) (h3 : w ≤ 10) (h4 : h ≤ 10) (h1 : i < w) (h2 : j < h) : cV l yX6_thicken (.code yX6_thicken cX6_thicken 5 none) ({ frames := 2, cells := 0, slots := 0, locals := 80 }) D [(cy1, .int), (cy2, .int), (cy3, .int), (cy4, .int), (cy5, .boolean), (cy6, .boolean)] [(h0, .inr (5, [.int (nI w), .int (nI h), .ref q1, .ref q2, .ref q3, .ref q4, .ref q5, .ref q6])), (q1, .inl (cy1, 100, .inl f1)), (q2, .inl (cy2, 100, .inl f2)), (q3, .inl (cy3, 100, .inl f3)), (q4, .inl (cy4, 100, .inl f4)), (q5, .inl (cy5, 100, .inl f5)), (q6, .inl (cy6, 100, .inl f6))] xT [.ref h0, .int (nI i), .int (nI j), .int ch] (S := (Nat → Int32) × (Nat → Int32)) (fun u => match u with | (g1, g2) => True) (fun u => match u with | (g1, g2) => []) (fun u => match u with | (g1, g2) => [(h0, .inr (5, [.int (nI w), .int (nI h), .ref q1, .ref q2, .ref q3, .ref q4, .ref q5, .ref q6])), (q1, .inl (cy1, 100, .inl g1)), (q2, .inl (cy2, 100, .inl g2)), (q3, .inl (cy3, 100, .inl f3)), (q4, .inl (cy4, 100, .inl f4)), (q5, .inl (cy5, 100, .inl f5)), (q6, .inl (cy6, 100, .inl f6))]) := by
  intro sz
  refine Met.ofW (cc := cX6_thicken) (maxL := 5) (ret := none) (by decide) rfl ?_
  intro p e s m args below meth c s₁ B hml hv
  obtain ⟨rfl, hsz, hP, hK, hD0, hX⟩ := hv
  have hx := B.exec
  have hb := B.bytes
  have hr := B.returns
  have hts0 := atoms_spec (ws := .code yX6_thicken cX6_thicken 5 none :: gw) B.pre
  have hts := fun (w : Cond) (h : w ∈ gw) => hts0 w (List.mem_cons_of_mem _ h)
  have hown : s.vm.findClass RX6 = some m.cls := findClass_of_methodNamed B.named
  have hlocks := B.notSynchronized
  have F : mFix p s m _ c cX6_thicken 5 RX6 := ⟨hx, hb, hml, hown, hts⟩
  subst hsz
  have hD := hD0.self (sz := s.heap.size)
  generalize hAe : va_A [(h0, .inr (5, [.int (nI w), .int (nI h), .ref q1, .ref q2, .ref q3, .ref q4, .ref q5, .ref q6])), (q1, .inl (cy1, 100, .inl f1)), (q2, .inl (cy2, 100, .inl f2)), (q3, .inl (cy3, 100, .inl f3)), (q4, .inl (cy4, 100, .inl f4)), (q5, .inl (cy5, 100, .inl f5)), (q6, .inl (cy6, 100, .inl f6))] s.heap.size = A at hD hX ⊢
  have hA : ∀ q : Nat, s.heap.size ≤ q → A q := fun q h => by rw [← hAe]; exact Or.inr h
  have hS : va_S A s.heap s.heap [] := va_S.rf
  have hl := lv_entry ([.ref h0, .int (nI i), .int (nI j), .int ch]) (n := 5) (Nat.le_of_ble_eq_true rfl)
  rw [lg_entry_eq]
  generalize (lg_sl ([.ref h0, .int (nI i), .int (nI j), .int ch]) ++ List.replicate (5 - (lg_sl ([.ref h0, .int (nI i), .int (nI j), .int ch])).length) Slot.unset).toArray = ls at hl ⊢
  have hl : lv_has ls 5 [(0, .ref h0), (1, .int (nI i)), (2, .int (nI j)), (3, .int ch)] := hl
  have hP : va_P D vwCl [(h0, .inr (5, [.int (nI w), .int (nI h), .ref q1, .ref q2, .ref q3, .ref q4, .ref q5, .ref q6])), (q1, .inl (cy1, 100, .inl f1)), (q2, .inl (cy2, 100, .inl f2)), (q3, .inl (cy3, 100, .inl f3)), (q4, .inl (cy4, 100, .inl f4)), (q5, .inl (cy5, 100, .inl f5)), (q6, .inl (cy6, 100, .inl f6))] s.heap := hP
  refine lv_aload_n hx hb dX6_thicken_0 rfl (lv_at hl 0 rfl) ?_
  refine lv_iload_n hx hb dX6_thicken_1 rfl (lv_at hl 1 rfl) ?_
  refine lv_iload_n hx hb dX6_thicken_2 rfl (lv_at hl 2 rfl) ?_
  refine mc_Vi (rest := []) (wr := [(q1, .inl (cy1, 100, .inl f1)), (q2, .inl (cy2, 100, .inl f2)), (q3, .inl (cy3, 100, .inl f3)), (q4, .inl (cy4, 100, .inl f4)), (q5, .inl (cy5, 100, .inl f5)), (q6, .inl (cy6, 100, .inl f6))]) F hK hP hD hS hA (c_has_in l D h0 q1 q2 q3 q4 q5 q6 w h i j (by omega) (by omega) (by omega) (by omega)) ⟨gk_X6_42.1, gk_X6_42.2, Nat.le_of_ble_eq_true rfl, Nat.le_of_ble_eq_true rfl⟩ [0] [1, 2, 3, 4, 5, 6] [] ⟨rfl, rfl, rfl, rfl, by decide⟩ rfl xT_move (fun _ _ _ => trivial) 0 rfl rfl rfl hl.1 rfl (Nat.le_of_ble_eq_true rfl) dX6_thicken_3 ⟨Nat.le_of_ble_eq_true rfl, Nat.le_of_ble_eq_true rfl⟩ (fun r_1 _ H locs hw hK1 hP hD hS => ?_)
  have hP : va_P D vwCl [(q1, .inl (cy1, 100, .inl f1)), (q2, .inl (cy2, 100, .inl f2)), (q3, .inl (cy3, 100, .inl f3)), (q4, .inl (cy4, 100, .inl f4)), (q5, .inl (cy5, 100, .inl f5)), (q6, .inl (cy6, 100, .inl f6)), (h0, .inr (5, [.int (nI w), .int (nI h), .ref q1, .ref q2, .ref q3, .ref q4, .ref q5, .ref q6]))] H := hP
  have hD : va_D A [(q1, .inl (cy1, 100, .inl f1)), (q2, .inl (cy2, 100, .inl f2)), (q3, .inl (cy3, 100, .inl f3)), (q4, .inl (cy4, 100, .inl f4)), (q5, .inl (cy5, 100, .inl f5)), (q6, .inl (cy6, 100, .inl f6)), (h0, .inr (5, [.int (nI w), .int (nI h), .ref q1, .ref q2, .ref q3, .ref q4, .ref q5, .ref q6]))] := hD
  have hw_2 : r_1 = 1 := hw
  obtain rfl : r_1 = 1 := hw_2
  refine lv_if_eq (tgt := 47) hx hb dX6_thicken_6 (by decide) (fun c_3 => absurd c_3 (by decide)) (fun c_3 => ?_)
  refine lv_aload_n hx hb dX6_thicken_9 rfl (lv_at hl 0 rfl) ?_
  refine lv_iload_n hx hb dX6_thicken_10 rfl (lv_at hl 1 rfl) ?_
  refine lv_iload_n hx hb dX6_thicken_11 rfl (lv_at hl 2 rfl) ?_
  refine mc_Vi (rest := []) (wr := [(q1, .inl (cy1, 100, .inl f1)), (q2, .inl (cy2, 100, .inl f2)), (q3, .inl (cy3, 100, .inl f3)), (q4, .inl (cy4, 100, .inl f4)), (q5, .inl (cy5, 100, .inl f5)), (q6, .inl (cy6, 100, .inl f6))]) F hK hP hD hS hA (c_spotOf l D h0 q1 q2 q3 q4 q5 q6 w h i j ) ⟨gk_X6_46.1, gk_X6_46.2, Nat.le_of_ble_eq_true rfl, Nat.le_of_ble_eq_true rfl⟩ [6] [0, 1, 2, 3, 4, 5] [] ⟨rfl, rfl, rfl, rfl, by decide⟩ rfl xT_move (fun _ _ _ => trivial) 6 rfl rfl rfl hl.1 rfl (Nat.le_of_ble_eq_true rfl) dX6_thicken_12 ⟨Nat.le_of_ble_eq_true rfl, Nat.le_of_ble_eq_true rfl⟩ (fun r_4 _ H locs hw hK1 hP hD hS => ?_)
  have hP : va_P D vwCl [(q1, .inl (cy1, 100, .inl f1)), (q2, .inl (cy2, 100, .inl f2)), (q3, .inl (cy3, 100, .inl f3)), (q4, .inl (cy4, 100, .inl f4)), (q5, .inl (cy5, 100, .inl f5)), (q6, .inl (cy6, 100, .inl f6)), (h0, .inr (5, [.int (nI w), .int (nI h), .ref q1, .ref q2, .ref q3, .ref q4, .ref q5, .ref q6]))] H := hP
  have hD : va_D A [(q1, .inl (cy1, 100, .inl f1)), (q2, .inl (cy2, 100, .inl f2)), (q3, .inl (cy3, 100, .inl f3)), (q4, .inl (cy4, 100, .inl f4)), (q5, .inl (cy5, 100, .inl f5)), (q6, .inl (cy6, 100, .inl f6)), (h0, .inr (5, [.int (nI w), .int (nI h), .ref q1, .ref q2, .ref q3, .ref q4, .ref q5, .ref q6]))] := hD
  have hw_5 : r_4 = nI (j * 10 + i) := hw
  obtain rfl : r_4 = nI (j * 10 + i) := hw_5
  refine lv_istore (lv' := [(4, .int (nI (j * 10 + i))), (0, .ref h0), (1, .int (nI i)), (2, .int (nI j)), (3, .int ch)]) hx hb dX6_thicken_15 hl (by decide) rfl (fun ls hl => ?_)
  refine lv_aload_n hx hb dX6_thicken_17 rfl (lv_at hl 1 rfl) ?_
  refine lv_iload_n hx hb dX6_thicken_18 rfl (lv_at hl 2 rfl) ?_
  refine lv_iload_n hx hb dX6_thicken_19 rfl (lv_at hl 3 rfl) ?_
  refine lv_aload_n hx hb dX6_thicken_20 rfl (lv_at hl 1 rfl) ?_
  refine va_get (D := D) (ci := 5) (v := .ref q1) (C := RX6) (T := TX6) (N := 8) hx hb hts inG_X6 hown hK hP 6 rfl rfl 2 (by decide) (hts _ kw_1_148) (fun _ h9 => h9) rfl dX6_thicken_21 ?_
  refine lv_iload hx hb dX6_thicken_24 (lv_at hl 0 rfl) ?_
  refine m_iald hx hb hK hP 0 0 rfl rfl (j * 10 + i) rfl (by omega) (by decide) dX6_thicken_26 ?_
  refine lv_topi (fun v_6 ev_6 => ?_)
  refine lv_iload_n hx hb dX6_thicken_27 rfl (lv_at hl 4 rfl) ?_
  refine lv_iadd hx hb dX6_thicken_28 ?_
  refine lv_topi (fun z_7 ez_7 => ?_)
  refine mc_Si (rest := [.int (nI j), .int (nI i), .ref h0]) (wr := [(q1, .inl (cy1, 100, .inl f1)), (q2, .inl (cy2, 100, .inl f2)), (q3, .inl (cy3, 100, .inl f3)), (q4, .inl (cy4, 100, .inl f4)), (q5, .inl (cy5, 100, .inl f5)), (q6, .inl (cy6, 100, .inl f6)), (h0, .inr (5, [.int (nI w), .int (nI h), .ref q1, .ref q2, .ref q3, .ref q4, .ref q5, .ref q6]))]) F hK hP hD hS hA (c_within l D z_7 ) ⟨gk_X6_53.1, gk_X6_53.2, Nat.le_of_ble_eq_true rfl, Nat.le_of_ble_eq_true rfl⟩ [] [0, 1, 2, 3, 4, 5, 6] [] ⟨rfl, rfl, rfl, rfl, by decide⟩ rfl xT_move (fun _ _ _ => trivial) rfl hl.1 rfl (Nat.le_of_ble_eq_true rfl) dX6_thicken_29 ⟨Nat.le_of_ble_eq_true rfl, Nat.le_of_ble_eq_true rfl⟩ (fun r_8 _ H locs hw hK1 hP hD hS => ?_)
  have hP : va_P D vwCl [(q1, .inl (cy1, 100, .inl f1)), (q2, .inl (cy2, 100, .inl f2)), (q3, .inl (cy3, 100, .inl f3)), (q4, .inl (cy4, 100, .inl f4)), (q5, .inl (cy5, 100, .inl f5)), (q6, .inl (cy6, 100, .inl f6)), (h0, .inr (5, [.int (nI w), .int (nI h), .ref q1, .ref q2, .ref q3, .ref q4, .ref q5, .ref q6]))] H := hP
  have hD : va_D A [(q1, .inl (cy1, 100, .inl f1)), (q2, .inl (cy2, 100, .inl f2)), (q3, .inl (cy3, 100, .inl f3)), (q4, .inl (cy4, 100, .inl f4)), (q5, .inl (cy5, 100, .inl f5)), (q6, .inl (cy6, 100, .inl f6)), (h0, .inr (5, [.int (nI w), .int (nI h), .ref q1, .ref q2, .ref q3, .ref q4, .ref q5, .ref q6]))] := hD
  have hw_9 : r_8 = r_8 := hw
  refine lv_aload_n hx hb dX6_thicken_32 rfl (lv_at hl 1 rfl) ?_
  refine va_get (D := D) (ci := 5) (v := .ref q2) (C := RX6) (T := TX6) (N := 8) hx hb hts inG_X6 hown hK hP 6 rfl rfl 3 (by decide) (hts _ kw_1_150) (fun _ h9 => h9) rfl dX6_thicken_33 ?_
  refine lv_iload hx hb dX6_thicken_36 (lv_at hl 0 rfl) ?_
  refine m_iald hx hb hK hP 1 1 rfl rfl (j * 10 + i) rfl (by omega) (by decide) dX6_thicken_38 ?_
  refine lv_topi (fun v_10 ev_10 => ?_)
  refine lv_iload_n hx hb dX6_thicken_39 rfl (lv_at hl 4 rfl) ?_
  refine lv_iadd hx hb dX6_thicken_40 ?_
  refine lv_topi (fun z_11 ez_11 => ?_)
  refine mc_Si (rest := [.int r_8, .int (nI j), .int (nI i), .ref h0]) (wr := [(q1, .inl (cy1, 100, .inl f1)), (q2, .inl (cy2, 100, .inl f2)), (q3, .inl (cy3, 100, .inl f3)), (q4, .inl (cy4, 100, .inl f4)), (q5, .inl (cy5, 100, .inl f5)), (q6, .inl (cy6, 100, .inl f6)), (h0, .inr (5, [.int (nI w), .int (nI h), .ref q1, .ref q2, .ref q3, .ref q4, .ref q5, .ref q6]))]) F hK hP hD hS hA (c_within l D z_11 ) ⟨gk_X6_53.1, gk_X6_53.2, Nat.le_of_ble_eq_true rfl, Nat.le_of_ble_eq_true rfl⟩ [] [0, 1, 2, 3, 4, 5, 6] [] ⟨rfl, rfl, rfl, rfl, by decide⟩ rfl xT_move (fun _ _ _ => trivial) rfl hl.1 rfl (Nat.le_of_ble_eq_true rfl) dX6_thicken_41 ⟨Nat.le_of_ble_eq_true rfl, Nat.le_of_ble_eq_true rfl⟩ (fun r_12 _ H locs hw hK1 hP hD hS => ?_)
  have hP : va_P D vwCl [(q1, .inl (cy1, 100, .inl f1)), (q2, .inl (cy2, 100, .inl f2)), (q3, .inl (cy3, 100, .inl f3)), (q4, .inl (cy4, 100, .inl f4)), (q5, .inl (cy5, 100, .inl f5)), (q6, .inl (cy6, 100, .inl f6)), (h0, .inr (5, [.int (nI w), .int (nI h), .ref q1, .ref q2, .ref q3, .ref q4, .ref q5, .ref q6]))] H := hP
  have hD : va_D A [(q1, .inl (cy1, 100, .inl f1)), (q2, .inl (cy2, 100, .inl f2)), (q3, .inl (cy3, 100, .inl f3)), (q4, .inl (cy4, 100, .inl f4)), (q5, .inl (cy5, 100, .inl f5)), (q6, .inl (cy6, 100, .inl f6)), (h0, .inr (5, [.int (nI w), .int (nI h), .ref q1, .ref q2, .ref q3, .ref q4, .ref q5, .ref q6]))] := hD
  have hw_13 : r_12 = r_12 := hw
  refine mc_Vv (rest := []) (wr := []) F hK hP hD hS hA (c_makeThick l D h0 q1 q2 q3 q4 q5 q6 cy1 cy2 cy3 cy4 cy5 cy6 f1 f2 f3 f4 f5 f6 w h i j r_8 r_12 (by omega) (by omega) (by omega) (by omega) (by omega) (by omega)) ⟨gk_X6_57.1, gk_X6_57.2, Nat.le_of_ble_eq_true rfl, Nat.le_of_ble_eq_true rfl⟩ [6, 0, 1, 2, 3, 4, 5] [] [0, 1, 2, 3, 4, 5] ⟨rfl, rfl, rfl, rfl, by decide⟩ rfl xT_move (fun _ _ _ => trivial) 6 rfl rfl rfl hl.1 rfl (Nat.le_of_ble_eq_true rfl) dX6_thicken_44 ⟨Nat.le_of_ble_eq_true rfl, Nat.le_of_ble_eq_true rfl⟩ (fun u H locs hw hK1 hP hD hS => ?_)
  obtain ⟨g1_14, g2_15⟩ := u
  have hP : va_P D vwCl [(h0, .inr (5, [.int (nI w), .int (nI h), .ref q1, .ref q2, .ref q3, .ref q4, .ref q5, .ref q6])), (q1, .inl (cy1, 100, .inl g1_14)), (q2, .inl (cy2, 100, .inl g2_15)), (q3, .inl (cy3, 100, .inl f3)), (q4, .inl (cy4, 100, .inl f4)), (q5, .inl (cy5, 100, .inl f5)), (q6, .inl (cy6, 100, .inl f6))] H := hP
  have hD : va_D A [(h0, .inr (5, [.int (nI w), .int (nI h), .ref q1, .ref q2, .ref q3, .ref q4, .ref q5, .ref q6])), (q1, .inl (cy1, 100, .inl g1_14)), (q2, .inl (cy2, 100, .inl g2_15)), (q3, .inl (cy3, 100, .inl f3)), (q4, .inl (cy4, 100, .inl f4)), (q5, .inl (cy5, 100, .inl f5)), (q6, .inl (cy6, 100, .inl f6))] := hD
  have hP9 := hP.sub (ws' := [(h0, .inr (5, [.int (nI w), .int (nI h), .ref q1, .ref q2, .ref q3, .ref q4, .ref q5, .ref q6])), (q1, .inl (cy1, 100, .inl g1_14)), (q2, .inl (cy2, 100, .inl g2_15)), (q3, .inl (cy3, 100, .inl f3)), (q4, .inl (cy4, 100, .inl f4)), (q5, .inl (cy5, 100, .inl f5)), (q6, .inl (cy6, 100, .inl f6))]) [0, 1, 2, 3, 4, 5, 6] rfl
  have hD9 := hD.sub (ws' := [(h0, .inr (5, [.int (nI w), .int (nI h), .ref q1, .ref q2, .ref q3, .ref q4, .ref q5, .ref q6])), (q1, .inl (cy1, 100, .inl g1_14)), (q2, .inl (cy2, 100, .inl g2_15)), (q3, .inl (cy3, 100, .inl f3)), (q4, .inl (cy4, 100, .inl f4)), (q5, .inl (cy5, 100, .inl f5)), (q6, .inl (cy6, 100, .inl f6))]) [0, 1, 2, 3, 4, 5, 6] (by decide) rfl
  have hK9 := hK.sub (tys' := []) [] rfl
  refine W.widen (k := 0) (n := 0) (by decide) (by decide) ?_
  exact W.vret hx hb hr (fun t ht hW => ⟨⟨(g1_14, g2_15), rfl, trivial, by rw [ht]; exact hP9, va_K.moved hW.alike hK9, hD9⟩, hS.F ht⟩) hS.2.2 dX6_thicken_47
theorem dX6_healFrom_2 : decode cX6_healFrom 2 = .ok (.iload_n 2, 1) := by decide +kernel
theorem dX6_healFrom_3 : decode cX6_healFrom 3 = .ok (.bipush 100, 2) := by decide +kernel
theorem dX6_healFrom_5 : decode cX6_healFrom 5 = .ok (.if_icmp .ge 26, 3) := by decide +kernel
theorem dX6_healFrom_8 : decode cX6_healFrom 8 = .ok (.aload_n 0, 1) := by decide +kernel
theorem dX6_healFrom_9 : decode cX6_healFrom 9 = .ok (.getfield 9, 3) := by decide +kernel
theorem dX6_healFrom_12 : decode cX6_healFrom 12 = .ok (.iload_n 2, 1) := by decide +kernel
theorem dX6_healFrom_13 : decode cX6_healFrom 13 = .ok (.iaload, 1) := by decide +kernel
theorem dX6_healFrom_14 : decode cX6_healFrom 14 = .ok (.iload_n 1, 1) := by decide +kernel
theorem dX6_healFrom_15 : decode cX6_healFrom 15 = .ok (.if_icmp .lt 10, 3) := by decide +kernel
theorem dX6_healFrom_25 : decode cX6_healFrom 25 = .ok (.iinc 2 1, 3) := by decide +kernel
theorem dX6_healFrom_28 : decode cX6_healFrom 28 = .ok (.goto (-26), 3) := by decide +kernel
theorem dX6_healFrom_18 : decode cX6_healFrom 18 = .ok (.aload_n 0, 1) := by decide +kernel
theorem dX6_healFrom_19 : decode cX6_healFrom 19 = .ok (.getfield 24, 3) := by decide +kernel
theorem dX6_healFrom_22 : decode cX6_healFrom 22 = .ok (.iload_n 2, 1) := by decide +kernel
theorem dX6_healFrom_23 : decode cX6_healFrom 23 = .ok (.iconst 0, 1) := by decide +kernel
theorem dX6_healFrom_24 : decode cX6_healFrom 24 = .ok (.bastore, 1) := by decide +kernel
set_option maxHeartbeats 4000000 in
set_option maxRecDepth 100000 in
theorem lp_healFrom {p : Program} {l : Launch} {e : Env} {s : State} {m : MethodId} {args : Array Value} {below : List Frame} {meth : Method} {c : Code} {Q : State → Prop} {A : Nat → Prop} {D : va_G} (F : mFix p s m args c cX6_healFrom 3 RX6) (hA : ∀ q, s.heap.size ≤ q → A q) (h0 : Nat) (q1 : Nat) (q2 : Nat) (q3 : Nat) (q4 : Nat) (q5 : Nat) (q6 : Nat) (cy1 : ClassId) (cy5 : ClassId) (f1 : Nat → Int32) (w : Nat) (h : Nat) (t1 : Int32) (hK : va_K D vwCl [(cy1, .int), (cy5, .boolean)] s)
    (kx_31 : ∀ (g5 : Nat → Int32), ∀ (H : Heap) (locs : List Loc), va_P D vwCl [(h0, .inr (5, [.int (nI w), .int (nI h), .ref q1, .ref q2, .ref q3, .ref q4, .ref q5, .ref q6])), (q1, .inl (cy1, 100, .inl f1)), (q5, .inl (cy5, 100, .inl g5))] H → va_D A [(h0, .inr (5, [.int (nI w), .int (nI h), .ref q1, .ref q2, .ref q3, .ref q4, .ref q5, .ref q6])), (q1, .inl (cy1, 100, .inl f1)), (q5, .inl (cy5, 100, .inl g5))] → va_S A s.heap H locs → ∀ ls : Array Slot, lv_has ls 3 [] → W p l e ({ frames := 0, cells := 0, slots := 0, locals := 0 }) s m args below meth c H locs 0 0 Q (F0 m 31 ls [])) :
    ∀ n : Nat, ∀ (g5 : Nat → Int32) (i : Nat), (i ≤ 100) → (100 - i) < n → ∀ (H : Heap) (locs : List Loc), va_P D vwCl [(h0, .inr (5, [.int (nI w), .int (nI h), .ref q1, .ref q2, .ref q3, .ref q4, .ref q5, .ref q6])), (q1, .inl (cy1, 100, .inl f1)), (q5, .inl (cy5, 100, .inl g5))] H → va_D A [(h0, .inr (5, [.int (nI w), .int (nI h), .ref q1, .ref q2, .ref q3, .ref q4, .ref q5, .ref q6])), (q1, .inl (cy1, 100, .inl f1)), (q5, .inl (cy5, 100, .inl g5))] → va_S A s.heap H locs → ∀ ls : Array Slot, lv_has ls 3 [(0, .ref h0), (1, .int t1), (2, .int (nI i))] → W p l e ({ frames := 0, cells := 0, slots := 0, locals := 0 }) s m args below meth c H locs 0 0 Q (F0 m 2 ls []) := by
  intro n
  induction n with
  | zero => intro g5 i hi hn; exact absurd hn (Nat.not_lt_zero _)
  | succ n ih =>
    intro g5 i hi hn H locs hP hD hS ls hl
    obtain ⟨hx, hb, hml, hown, hts⟩ := id F
    refine lv_iload_n hx hb dX6_healFrom_2 rfl (lv_at hl 2 rfl) ?_
    refine lv_bipush (v := 100) hx hb dX6_healFrom_3 (by decide) ?_
    refine lv_icmp_ge (tgt := 31) hx hb dX6_healFrom_5 (by decide) (fun c_1 => ?_) (fun c_1 => ?_)
    · skip
      have c_1n : 100 ≤ i := (nI_leI (by omega) (by omega)).mp c_1
      have c_1 := Int32.not_lt.mpr c_1
      exact kx_31 g5  H locs (hP.sub [0, 1, 2] rfl) (hD.sub [0, 1, 2] (by decide) rfl) hS ls (lv_sub hl [] rfl)
    · skip
      have c_1n : i < 100 := nb_le (by omega) (by omega) c_1
      have c_1 := Int32.not_le.mp c_1
      refine lv_aload_n hx hb dX6_healFrom_8 rfl (lv_at hl 0 rfl) ?_
      refine va_get (D := D) (ci := 5) (v := .ref q1) (C := RX6) (T := TX6) (N := 8) hx hb hts inG_X6 hown hK hP 0 rfl rfl 2 (by decide) (hts _ kw_1_148) (fun _ h9 => h9) rfl dX6_healFrom_9 ?_
      refine lv_iload_n hx hb dX6_healFrom_12 rfl (lv_at hl 2 rfl) ?_
      refine m_iald hx hb hK hP 1 0 rfl rfl i rfl (by omega) (by decide) dX6_healFrom_13 ?_
      refine lv_topi (fun v_2 ev_2 => ?_)
      refine lv_iload_n hx hb dX6_healFrom_14 rfl (lv_at hl 1 rfl) ?_
      refine lv_icmp_lt (tgt := 25) hx hb dX6_healFrom_15 (by decide) (fun c_3 => ?_) (fun c_3 => ?_)
      · skip
        refine lv_iinc (v := nI (i + 1)) (lv' := [(2, .int (nI (i + 1))), (0, .ref h0), (1, .int t1)]) hx hb dX6_healFrom_25 hl (k := 2) rfl (nI_add i 1) (by decide) rfl (fun ls hl => ?_)
        refine lv_goto (tgt := 2) hx hb dX6_healFrom_28 (by decide) ?_
        exact ih g5 (i + 1) (by omega) (by omega) H locs (hP.sub [0, 1, 2] rfl) (hD.sub [0, 1, 2] (by decide) rfl) hS ls (lv_sub hl [1, 2, 0] rfl)
      · skip
        refine lv_aload_n hx hb dX6_healFrom_18 rfl (lv_at hl 0 rfl) ?_
        refine va_get (D := D) (ci := 5) (v := .ref q5) (C := RX6) (T := TX6) (N := 8) hx hb hts inG_X6 hown hK hP 0 rfl rfl 6 (by decide) (hts _ kw_1_157) (fun _ h9 => h9) rfl dX6_healFrom_19 ?_
        refine lv_iload_n hx hb dX6_healFrom_22 rfl (lv_at hl 2 rfl) ?_
        refine lv_iconst (v := 0) hx hb dX6_healFrom_23 (by decide) ?_
        refine m_zast hx hb hK hP hD hS 2 1 rfl rfl i rfl (by omega) (by decide) dX6_healFrom_24 (fun g_4 H locs eg_4 hP hD hS => ?_)
        have hP : va_P D vwCl [(h0, .inr (5, [.int (nI w), .int (nI h), .ref q1, .ref q2, .ref q3, .ref q4, .ref q5, .ref q6])), (q1, .inl (cy1, 100, .inl f1)), (q5, .inl (cy5, 100, .inl g_4))] H := hP
        have hD : va_D A [(h0, .inr (5, [.int (nI w), .int (nI h), .ref q1, .ref q2, .ref q3, .ref q4, .ref q5, .ref q6])), (q1, .inl (cy1, 100, .inl f1)), (q5, .inl (cy5, 100, .inl g_4))] := hD
        refine lv_iinc (v := nI (i + 1)) (lv' := [(2, .int (nI (i + 1))), (0, .ref h0), (1, .int t1)]) hx hb dX6_healFrom_25 hl (k := 2) rfl (nI_add i 1) (by decide) rfl (fun ls hl => ?_)
        refine lv_goto (tgt := 2) hx hb dX6_healFrom_28 (by decide) ?_
        exact ih g_4 (i + 1) (by omega) (by omega) H locs (hP.sub [0, 1, 2] rfl) (hD.sub [0, 1, 2] (by decide) rfl) hS ls (lv_sub hl [1, 2, 0] rfl)
theorem dX6_healFrom_0 : decode cX6_healFrom 0 = .ok (.iconst 0, 1) := by decide +kernel
theorem dX6_healFrom_1 : decode cX6_healFrom 1 = .ok (.istore_n 2, 1) := by decide +kernel
theorem dX6_healFrom_31 : decode cX6_healFrom 31 = .ok (.return_, 1) := by decide +kernel
set_option maxHeartbeats 4000000 in
set_option maxRecDepth 100000 in
theorem c_healFrom (l : Launch) (D : va_G) (h0 : Nat) (q1 : Nat) (q2 : Nat) (q3 : Nat) (q4 : Nat) (q5 : Nat) (q6 : Nat) (cy1 : ClassId) (cy5 : ClassId) (f1 : Nat → Int32) (f5 : Nat → Int32) (w : Nat) (h : Nat) (t1 : Int32) : cV l yX6_healFrom (.code yX6_healFrom cX6_healFrom 3 none) ({ frames := 0, cells := 0, slots := 0, locals := 0 }) D [(cy1, .int), (cy5, .boolean)] [(h0, .inr (5, [.int (nI w), .int (nI h), .ref q1, .ref q2, .ref q3, .ref q4, .ref q5, .ref q6])), (q1, .inl (cy1, 100, .inl f1)), (q5, .inl (cy5, 100, .inl f5))] xT [.ref h0, .int t1] (S := Nat → Int32) (fun u => match u with | g5 => True) (fun u => match u with | g5 => []) (fun u => match u with | g5 => [(h0, .inr (5, [.int (nI w), .int (nI h), .ref q1, .ref q2, .ref q3, .ref q4, .ref q5, .ref q6])), (q1, .inl (cy1, 100, .inl f1)), (q5, .inl (cy5, 100, .inl g5))]) := by
  intro sz
  refine Met.ofW (cc := cX6_healFrom) (maxL := 3) (ret := none) (by decide) rfl ?_
  intro p e s m args below meth c s₁ B hml hv
  obtain ⟨rfl, hsz, hP, hK, hD0, hX⟩ := hv
  have hx := B.exec
  have hb := B.bytes
  have hr := B.returns
  have hts0 := atoms_spec (ws := .code yX6_healFrom cX6_healFrom 3 none :: gw) B.pre
  have hts := fun (w : Cond) (h : w ∈ gw) => hts0 w (List.mem_cons_of_mem _ h)
  have hown : s.vm.findClass RX6 = some m.cls := findClass_of_methodNamed B.named
  have hlocks := B.notSynchronized
  have F : mFix p s m _ c cX6_healFrom 3 RX6 := ⟨hx, hb, hml, hown, hts⟩
  subst hsz
  have hD := hD0.self (sz := s.heap.size)
  generalize hAe : va_A [(h0, .inr (5, [.int (nI w), .int (nI h), .ref q1, .ref q2, .ref q3, .ref q4, .ref q5, .ref q6])), (q1, .inl (cy1, 100, .inl f1)), (q5, .inl (cy5, 100, .inl f5))] s.heap.size = A at hD hX ⊢
  have hA : ∀ q : Nat, s.heap.size ≤ q → A q := fun q h => by rw [← hAe]; exact Or.inr h
  have hS : va_S A s.heap s.heap [] := va_S.rf
  have hl := lv_entry ([.ref h0, .int t1]) (n := 3) (Nat.le_of_ble_eq_true rfl)
  rw [lg_entry_eq]
  generalize (lg_sl ([.ref h0, .int t1]) ++ List.replicate (3 - (lg_sl ([.ref h0, .int t1])).length) Slot.unset).toArray = ls at hl ⊢
  have hl : lv_has ls 3 [(0, .ref h0), (1, .int t1)] := hl
  have hP : va_P D vwCl [(h0, .inr (5, [.int (nI w), .int (nI h), .ref q1, .ref q2, .ref q3, .ref q4, .ref q5, .ref q6])), (q1, .inl (cy1, 100, .inl f1)), (q5, .inl (cy5, 100, .inl f5))] s.heap := hP
  refine lv_iconst (v := 0) hx hb dX6_healFrom_0 (by decide) ?_
  refine lv_istore_n (lv' := [(2, .int 0), (0, .ref h0), (1, .int t1)]) hx hb dX6_healFrom_1 rfl hl (by decide) rfl (fun ls hl => ?_)
  refine lp_healFrom F hA h0 q1 q2 q3 q4 q5 q6 cy1 cy5 f1 w h t1 (hK.sub [0, 1] rfl) (fun g5_1  H locs hP hD hS ls hl => ?_) _ f5 0 (by omega) (Nat.lt_succ_self _) _ _ (hP.sub [0, 1, 2] rfl) (hD.sub [0, 1, 2] (by decide) rfl) hS ls (lv_sub hl [1, 2, 0] rfl)
  have hP9 := hP.sub (ws' := [(h0, .inr (5, [.int (nI w), .int (nI h), .ref q1, .ref q2, .ref q3, .ref q4, .ref q5, .ref q6])), (q1, .inl (cy1, 100, .inl f1)), (q5, .inl (cy5, 100, .inl g5_1))]) [0, 1, 2] rfl
  have hD9 := hD.sub (ws' := [(h0, .inr (5, [.int (nI w), .int (nI h), .ref q1, .ref q2, .ref q3, .ref q4, .ref q5, .ref q6])), (q1, .inl (cy1, 100, .inl f1)), (q5, .inl (cy5, 100, .inl g5_1))]) [0, 1, 2] (by decide) rfl
  have hK9 := hK.sub (tys' := []) [] rfl
  refine W.widen (k := 0) (n := 0) (by decide) (by decide) ?_
  exact W.vret hx hb hr (fun t ht hW => ⟨⟨g5_1, rfl, trivial, by rw [ht]; exact hP9, va_K.moved hW.alike hK9, hD9⟩, hS.F ht⟩) hS.2.2 dX6_healFrom_31
theorem dX6_markBreaking_15 : decode cX6_markBreaking 15 = .ok (.iload 4, 2) := by decide +kernel
theorem dX6_markBreaking_17 : decode cX6_markBreaking 17 = .ok (.aload_n 0, 1) := by decide +kernel
theorem dX6_markBreaking_18 : decode cX6_markBreaking 18 = .ok (.getfield 35, 3) := by decide +kernel
theorem dX6_markBreaking_21 : decode cX6_markBreaking 21 = .ok (.if_icmp .ge 99, 3) := by decide +kernel
theorem dX6_markBreaking_24 : decode cX6_markBreaking 24 = .ok (.aload_n 0, 1) := by decide +kernel
theorem dX6_markBreaking_25 : decode cX6_markBreaking 25 = .ok (.iload 4, 2) := by decide +kernel
theorem dX6_markBreaking_27 : decode cX6_markBreaking 27 = .ok (.iload_n 3, 1) := by decide +kernel
theorem dX6_markBreaking_28 : decode cX6_markBreaking 28 = .ok (.invokevirtual 46, 3) := by decide +kernel
theorem dX6_markBreaking_31 : decode cX6_markBreaking 31 = .ok (.istore 5, 2) := by decide +kernel
theorem dX6_markBreaking_33 : decode cX6_markBreaking 33 = .ok (.aload_n 0, 1) := by decide +kernel
theorem dX6_markBreaking_34 : decode cX6_markBreaking 34 = .ok (.getfield 18, 3) := by decide +kernel
theorem dX6_markBreaking_37 : decode cX6_markBreaking 37 = .ok (.iload 5, 2) := by decide +kernel
theorem dX6_markBreaking_39 : decode cX6_markBreaking 39 = .ok (.iaload, 1) := by decide +kernel
theorem dX6_markBreaking_40 : decode cX6_markBreaking 40 = .ok (.aload_n 0, 1) := by decide +kernel
theorem dX6_markBreaking_41 : decode cX6_markBreaking 41 = .ok (.iload 5, 2) := by decide +kernel
theorem dX6_markBreaking_43 : decode cX6_markBreaking 43 = .ok (.iload_n 1, 1) := by decide +kernel
theorem kw_3_63 : Cond.methodLink RX6 72 yX6_bearing ∈ gw := gw_t3 (List.mem_of_getElem? (i := 63) (by decide +kernel)) (by decide +kernel)
theorem kw_3_64 : Cond.instanceMethod yX6_bearing ∈ gw := gw_t3 (List.mem_of_getElem? (i := 64) (by decide +kernel)) (by decide +kernel)
theorem kw_3_65 : Cond.selects RX6 yX6_bearing yX6_bearing ∈ gw := gw_t3 (List.mem_of_getElem? (i := 65) (by decide +kernel)) (by decide +kernel)
theorem kw_3_66 : Cond.code yX6_bearing cX6_bearing 3 (some .int) ∈ gw := gw_t3 (List.mem_of_getElem? (i := 66) (by decide +kernel)) (by decide +kernel)
theorem gk_X6_72 : GoodIn gw (wsV RX6 72 RX6 yX6_bearing (.code yX6_bearing cX6_bearing 3 (some .int) :: gw)) ∧ (yX6_bearing.cls = RX6 ∧ yX6_bearing.cls ≠ "java/lang/invoke/MethodHandle" ∧ yX6_bearing.cls ≠ "java/lang/invoke/VarHandle" ∧ (parseMethodDescriptor yX6_bearing.desc).map (fun d => d.parameters.length) = some 2) := ⟨gi_V kw_3_63 kw_3_64 kw_3_65 kw_1_7 kw_3_66, by decide +kernel⟩
theorem dX6_markBreaking_44 : decode cX6_markBreaking 44 = .ok (.invokevirtual 72, 3) := by decide +kernel
theorem dX6_markBreaking_47 : decode cX6_markBreaking 47 = .ok (.if_icmp .gt 13, 3) := by decide +kernel
theorem dX6_markBreaking_60 : decode cX6_markBreaking 60 = .ok (.iconst 1, 1) := by decide +kernel
theorem dX6_markBreaking_61 : decode cX6_markBreaking 61 = .ok (.goto 4, 3) := by decide +kernel
theorem dX6_markBreaking_65 : decode cX6_markBreaking 65 = .ok (.istore 6, 2) := by decide +kernel
theorem dX6_markBreaking_67 : decode cX6_markBreaking 67 = .ok (.aload_n 0, 1) := by decide +kernel
theorem dX6_markBreaking_68 : decode cX6_markBreaking 68 = .ok (.getfield 28, 3) := by decide +kernel
theorem dX6_markBreaking_71 : decode cX6_markBreaking 71 = .ok (.iload 5, 2) := by decide +kernel
theorem dX6_markBreaking_73 : decode cX6_markBreaking 73 = .ok (.iload 6, 2) := by decide +kernel
theorem dX6_markBreaking_75 : decode cX6_markBreaking 75 = .ok (.ifCond .eq 17, 3) := by decide +kernel
theorem dX6_markBreaking_78 : decode cX6_markBreaking 78 = .ok (.aload_n 0, 1) := by decide +kernel
theorem dX6_markBreaking_79 : decode cX6_markBreaking 79 = .ok (.getfield 24, 3) := by decide +kernel
theorem dX6_markBreaking_82 : decode cX6_markBreaking 82 = .ok (.iload 5, 2) := by decide +kernel
theorem dX6_markBreaking_84 : decode cX6_markBreaking 84 = .ok (.baload, 1) := by decide +kernel
theorem dX6_markBreaking_85 : decode cX6_markBreaking 85 = .ok (.ifCond .ne 7, 3) := by decide +kernel
theorem dX6_markBreaking_92 : decode cX6_markBreaking 92 = .ok (.iconst 0, 1) := by decide +kernel
theorem dX6_markBreaking_93 : decode cX6_markBreaking 93 = .ok (.bastore, 1) := by decide +kernel
theorem dX6_markBreaking_94 : decode cX6_markBreaking 94 = .ok (.iload_n 2, 1) := by decide +kernel
theorem dX6_markBreaking_95 : decode cX6_markBreaking 95 = .ok (.ifCond .ne 13, 3) := by decide +kernel
theorem dX6_markBreaking_108 : decode cX6_markBreaking 108 = .ok (.iconst 1, 1) := by decide +kernel
theorem dX6_markBreaking_109 : decode cX6_markBreaking 109 = .ok (.goto 4, 3) := by decide +kernel
theorem dX6_markBreaking_113 : decode cX6_markBreaking 113 = .ok (.istore_n 2, 1) := by decide +kernel
theorem dX6_markBreaking_114 : decode cX6_markBreaking 114 = .ok (.iinc 4 1, 3) := by decide +kernel
theorem dX6_markBreaking_117 : decode cX6_markBreaking 117 = .ok (.goto (-102), 3) := by decide +kernel
theorem dX6_markBreaking_98 : decode cX6_markBreaking 98 = .ok (.aload_n 0, 1) := by decide +kernel
theorem dX6_markBreaking_99 : decode cX6_markBreaking 99 = .ok (.getfield 28, 3) := by decide +kernel
theorem dX6_markBreaking_102 : decode cX6_markBreaking 102 = .ok (.iload 5, 2) := by decide +kernel
theorem dX6_markBreaking_104 : decode cX6_markBreaking 104 = .ok (.baload, 1) := by decide +kernel
theorem dX6_markBreaking_105 : decode cX6_markBreaking 105 = .ok (.ifCond .eq 7, 3) := by decide +kernel
theorem dX6_markBreaking_112 : decode cX6_markBreaking 112 = .ok (.iconst 0, 1) := by decide +kernel
theorem dX6_markBreaking_88 : decode cX6_markBreaking 88 = .ok (.iconst 1, 1) := by decide +kernel
theorem dX6_markBreaking_89 : decode cX6_markBreaking 89 = .ok (.goto 4, 3) := by decide +kernel
theorem dX6_markBreaking_50 : decode cX6_markBreaking 50 = .ok (.aload_n 0, 1) := by decide +kernel
theorem dX6_markBreaking_51 : decode cX6_markBreaking 51 = .ok (.getfield 15, 3) := by decide +kernel
theorem dX6_markBreaking_54 : decode cX6_markBreaking 54 = .ok (.iload 5, 2) := by decide +kernel
theorem dX6_markBreaking_56 : decode cX6_markBreaking 56 = .ok (.iaload, 1) := by decide +kernel
theorem dX6_markBreaking_57 : decode cX6_markBreaking 57 = .ok (.ifCond .ne 7, 3) := by decide +kernel
theorem dX6_markBreaking_64 : decode cX6_markBreaking 64 = .ok (.iconst 0, 1) := by decide +kernel
set_option maxHeartbeats 4000000 in
set_option maxRecDepth 100000 in
theorem lp_mark_in {p : Program} {l : Launch} {e : Env} {s : State} {m : MethodId} {args : Array Value} {below : List Frame} {meth : Method} {c : Code} {Q : State → Prop} {A : Nat → Prop} {D : va_G} (F : mFix p s m args c cX6_markBreaking 7 RX6) (hA : ∀ q, s.heap.size ≤ q → A q) (h0 : Nat) (q1 : Nat) (q2 : Nat) (q3 : Nat) (q4 : Nat) (q5 : Nat) (q6 : Nat) (cy1 : ClassId) (cy2 : ClassId) (cy3 : ClassId) (cy5 : ClassId) (cy6 : ClassId) (f1 : Nat → Int32) (f2 : Nat → Int32) (f3 : Nat → Int32) (f5 : Nat → Int32) (w : Nat) (h : Nat) (b : Int32) (j : Nat) (hK : va_K D vwCl [(cy1, .int), (cy2, .int), (cy3, .int), (cy5, .boolean), (cy6, .boolean)] s)
    (kx_120 : ∀ (g6 : Nat → Int32) (an : Int32), (an = 0 ∨ an = 1) → ∀ (H : Heap) (locs : List Loc), va_P D vwCl [(h0, .inr (5, [.int (nI w), .int (nI h), .ref q1, .ref q2, .ref q3, .ref q4, .ref q5, .ref q6])), (q1, .inl (cy1, 100, .inl f1)), (q2, .inl (cy2, 100, .inl f2)), (q3, .inl (cy3, 100, .inl f3)), (q5, .inl (cy5, 100, .inl f5)), (q6, .inl (cy6, 100, .inl g6))] H → va_D A [(h0, .inr (5, [.int (nI w), .int (nI h), .ref q1, .ref q2, .ref q3, .ref q4, .ref q5, .ref q6])), (q1, .inl (cy1, 100, .inl f1)), (q2, .inl (cy2, 100, .inl f2)), (q3, .inl (cy3, 100, .inl f3)), (q5, .inl (cy5, 100, .inl f5)), (q6, .inl (cy6, 100, .inl g6))] → va_S A s.heap H locs → ∀ ls : Array Slot, lv_has ls 7 [(0, .ref h0), (1, .int b), (2, .int an), (3, .int (nI j))] → W p l e ({ frames := 1, cells := 0, slots := 0, locals := 22 }) s m args below meth c H locs 0 0 Q (F0 m 120 ls [])) :
    ∀ n : Nat, ∀ (g6 : Nat → Int32) (an : Int32) (i : Nat), (i ≤ w) → (j < h) → (w ≤ 10) → (h ≤ 10) → (an = 0 ∨ an = 1) → (w - i) < n → ∀ (H : Heap) (locs : List Loc), va_P D vwCl [(h0, .inr (5, [.int (nI w), .int (nI h), .ref q1, .ref q2, .ref q3, .ref q4, .ref q5, .ref q6])), (q1, .inl (cy1, 100, .inl f1)), (q2, .inl (cy2, 100, .inl f2)), (q3, .inl (cy3, 100, .inl f3)), (q5, .inl (cy5, 100, .inl f5)), (q6, .inl (cy6, 100, .inl g6))] H → va_D A [(h0, .inr (5, [.int (nI w), .int (nI h), .ref q1, .ref q2, .ref q3, .ref q4, .ref q5, .ref q6])), (q1, .inl (cy1, 100, .inl f1)), (q2, .inl (cy2, 100, .inl f2)), (q3, .inl (cy3, 100, .inl f3)), (q5, .inl (cy5, 100, .inl f5)), (q6, .inl (cy6, 100, .inl g6))] → va_S A s.heap H locs → ∀ ls : Array Slot, lv_has ls 7 [(0, .ref h0), (1, .int b), (2, .int an), (3, .int (nI j)), (4, .int (nI i))] → W p l e ({ frames := 1, cells := 0, slots := 0, locals := 22 }) s m args below meth c H locs 0 0 Q (F0 m 15 ls []) := by
  intro n
  induction n with
  | zero => intro g6 an i b1 b2 h3 h4 ha hn; exact absurd hn (Nat.not_lt_zero _)
  | succ n ih =>
    intro g6 an i b1 b2 h3 h4 ha hn H locs hP hD hS ls hl
    obtain ⟨hx, hb, hml, hown, hts⟩ := id F
    refine lv_iload hx hb dX6_markBreaking_15 (lv_at hl 4 rfl) ?_
    refine lv_aload_n hx hb dX6_markBreaking_17 rfl (lv_at hl 0 rfl) ?_
    refine va_get (D := D) (ci := 5) (v := .int (nI w)) (C := RX6) (T := TX6) (N := 8) hx hb hts inG_X6 hown hK hP 0 rfl rfl 0 (by decide) (hts _ kw_1_142) (fun _ h9 => h9) rfl dX6_markBreaking_18 ?_
    refine lv_icmp_ge (tgt := 120) hx hb dX6_markBreaking_21 (by decide) (fun c_1 => ?_) (fun c_1 => ?_)
    · skip
      have c_1n : w ≤ i := (nI_leI (by omega) (by omega)).mp c_1
      have c_1 := Int32.not_lt.mpr c_1
      exact kx_120 g6 an ha H locs (hP.sub [0, 1, 2, 3, 4, 5] rfl) (hD.sub [0, 1, 2, 3, 4, 5] (by decide) rfl) hS ls (lv_sub hl [0, 1, 2, 3] rfl)
    · skip
      have c_1n : i < w := nb_le (by omega) (by omega) c_1
      have c_1 := Int32.not_le.mp c_1
      refine lv_aload_n hx hb dX6_markBreaking_24 rfl (lv_at hl 0 rfl) ?_
      refine lv_iload hx hb dX6_markBreaking_25 (lv_at hl 4 rfl) ?_
      refine lv_iload_n hx hb dX6_markBreaking_27 rfl (lv_at hl 3 rfl) ?_
      refine mc_Vi (rest := []) (wr := [(q1, .inl (cy1, 100, .inl f1)), (q2, .inl (cy2, 100, .inl f2)), (q3, .inl (cy3, 100, .inl f3)), (q5, .inl (cy5, 100, .inl f5)), (q6, .inl (cy6, 100, .inl g6))]) F hK hP hD hS hA (c_spotOf l D h0 q1 q2 q3 q4 q5 q6 w h i j ) ⟨gk_X6_46.1, gk_X6_46.2, Nat.le_of_ble_eq_true rfl, Nat.le_of_ble_eq_true rfl⟩ [0] [1, 2, 3, 4, 5] [] ⟨rfl, rfl, rfl, rfl, by decide⟩ rfl xT_move (fun _ _ _ => trivial) 0 rfl rfl rfl hl.1 rfl (Nat.le_of_ble_eq_true rfl) dX6_markBreaking_28 ⟨Nat.le_of_ble_eq_true rfl, Nat.le_of_ble_eq_true rfl⟩ (fun r_2 _ H locs hw hK1 hP hD hS => ?_)
      have hP : va_P D vwCl [(q1, .inl (cy1, 100, .inl f1)), (q2, .inl (cy2, 100, .inl f2)), (q3, .inl (cy3, 100, .inl f3)), (q5, .inl (cy5, 100, .inl f5)), (q6, .inl (cy6, 100, .inl g6)), (h0, .inr (5, [.int (nI w), .int (nI h), .ref q1, .ref q2, .ref q3, .ref q4, .ref q5, .ref q6]))] H := hP
      have hD : va_D A [(q1, .inl (cy1, 100, .inl f1)), (q2, .inl (cy2, 100, .inl f2)), (q3, .inl (cy3, 100, .inl f3)), (q5, .inl (cy5, 100, .inl f5)), (q6, .inl (cy6, 100, .inl g6)), (h0, .inr (5, [.int (nI w), .int (nI h), .ref q1, .ref q2, .ref q3, .ref q4, .ref q5, .ref q6]))] := hD
      have hw_3 : r_2 = nI (j * 10 + i) := hw
      obtain rfl : r_2 = nI (j * 10 + i) := hw_3
      refine lv_istore (lv' := [(5, .int (nI (j * 10 + i))), (0, .ref h0), (1, .int b), (2, .int an), (3, .int (nI j)), (4, .int (nI i))]) hx hb dX6_markBreaking_31 hl (by decide) rfl (fun ls hl => ?_)
      refine lv_aload_n hx hb dX6_markBreaking_33 rfl (lv_at hl 1 rfl) ?_
      refine va_get (D := D) (ci := 5) (v := .ref q3) (C := RX6) (T := TX6) (N := 8) hx hb hts inG_X6 hown hK hP 5 rfl rfl 4 (by decide) (hts _ kw_1_152) (fun _ h9 => h9) rfl dX6_markBreaking_34 ?_
      refine lv_iload hx hb dX6_markBreaking_37 (lv_at hl 0 rfl) ?_
      refine m_iald hx hb hK hP 2 2 rfl rfl (j * 10 + i) rfl (by omega) (by decide) dX6_markBreaking_39 ?_
      refine lv_topi (fun v_4 ev_4 => ?_)
      refine lv_aload_n hx hb dX6_markBreaking_40 rfl (lv_at hl 1 rfl) ?_
      refine lv_iload hx hb dX6_markBreaking_41 (lv_at hl 0 rfl) ?_
      refine lv_iload_n hx hb dX6_markBreaking_43 rfl (lv_at hl 2 rfl) ?_
      refine mc_Vi (rest := [.int v_4]) (wr := [(q2, .inl (cy2, 100, .inl f2)), (q3, .inl (cy3, 100, .inl f3)), (q5, .inl (cy5, 100, .inl f5)), (q6, .inl (cy6, 100, .inl g6))]) F hK hP hD hS hA (c_bearing l D h0 q1 q2 q3 q4 q5 q6 cy1 f1 w h (j * 10 + i) b (by omega)) ⟨gk_X6_72.1, gk_X6_72.2, Nat.le_of_ble_eq_true rfl, Nat.le_of_ble_eq_true rfl⟩ [5, 0] [1, 2, 3, 4] [0] ⟨rfl, rfl, rfl, rfl, by decide⟩ rfl xT_move (fun _ _ _ => trivial) 5 rfl rfl rfl hl.1 rfl (Nat.le_of_ble_eq_true rfl) dX6_markBreaking_44 ⟨Nat.le_of_ble_eq_true rfl, Nat.le_of_ble_eq_true rfl⟩ (fun r_5 _ H locs hw hK1 hP hD hS => ?_)
      have hP : va_P D vwCl [(q2, .inl (cy2, 100, .inl f2)), (q3, .inl (cy3, 100, .inl f3)), (q5, .inl (cy5, 100, .inl f5)), (q6, .inl (cy6, 100, .inl g6)), (h0, .inr (5, [.int (nI w), .int (nI h), .ref q1, .ref q2, .ref q3, .ref q4, .ref q5, .ref q6])), (q1, .inl (cy1, 100, .inl f1))] H := hP
      have hD : va_D A [(q2, .inl (cy2, 100, .inl f2)), (q3, .inl (cy3, 100, .inl f3)), (q5, .inl (cy5, 100, .inl f5)), (q6, .inl (cy6, 100, .inl g6)), (h0, .inr (5, [.int (nI w), .int (nI h), .ref q1, .ref q2, .ref q3, .ref q4, .ref q5, .ref q6])), (q1, .inl (cy1, 100, .inl f1))] := hD
      have hw_6 : r_5 = f1 (j * 10 + i) * f1 (j * 10 + i) * b / 100 := hw
      refine lv_icmp_gt (tgt := 60) hx hb dX6_markBreaking_47 (by decide) (fun c_7 => ?_) (fun c_7 => ?_)
      · skip
        refine lv_iconst (v := 1) hx hb dX6_markBreaking_60 (by decide) ?_
        refine lv_goto (tgt := 65) hx hb dX6_markBreaking_61 (by decide) ?_
        refine lv_istore (lv' := [(6, .int 1), (5, .int (nI (j * 10 + i))), (0, .ref h0), (1, .int b), (2, .int an), (3, .int (nI j)), (4, .int (nI i))]) hx hb dX6_markBreaking_65 hl (by decide) rfl (fun ls hl => ?_)
        refine lv_aload_n hx hb dX6_markBreaking_67 rfl (lv_at hl 2 rfl) ?_
        refine va_get (D := D) (ci := 5) (v := .ref q6) (C := RX6) (T := TX6) (N := 8) hx hb hts inG_X6 hown hK hP 4 rfl rfl 7 (by decide) (hts _ kw_1_159) (fun _ h9 => h9) rfl dX6_markBreaking_68 ?_
        refine lv_iload hx hb dX6_markBreaking_71 (lv_at hl 1 rfl) ?_
        refine lv_iload hx hb dX6_markBreaking_73 (lv_at hl 0 rfl) ?_
        refine lv_if_eq (tgt := 92) hx hb dX6_markBreaking_75 (by decide) (fun c_8 => absurd c_8 (by decide)) (fun c_8 => ?_)
        refine lv_aload_n hx hb dX6_markBreaking_78 rfl (lv_at hl 2 rfl) ?_
        refine va_get (D := D) (ci := 5) (v := .ref q5) (C := RX6) (T := TX6) (N := 8) hx hb hts inG_X6 hown hK hP 4 rfl rfl 6 (by decide) (hts _ kw_1_157) (fun _ h9 => h9) rfl dX6_markBreaking_79 ?_
        refine lv_iload hx hb dX6_markBreaking_82 (lv_at hl 1 rfl) ?_
        refine m_zald hx hb hK hP 2 3 rfl rfl (j * 10 + i) rfl (by omega) (by decide) dX6_markBreaking_84 ?_
        refine lv_topi (fun v_9 ev_9 => ?_)
        refine lv_if_ne (tgt := 92) hx hb dX6_markBreaking_85 (by decide) (fun c_10 => ?_) (fun c_10 => ?_)
        · skip
          refine lv_iconst (v := 0) hx hb dX6_markBreaking_92 (by decide) ?_
          refine m_zast hx hb hK hP hD hS 3 4 rfl rfl (j * 10 + i) rfl (by omega) (by decide) dX6_markBreaking_93 (fun g_11 H locs eg_11 hP hD hS => ?_)
          have hP : va_P D vwCl [(q2, .inl (cy2, 100, .inl f2)), (q3, .inl (cy3, 100, .inl f3)), (q5, .inl (cy5, 100, .inl f5)), (q6, .inl (cy6, 100, .inl g_11)), (h0, .inr (5, [.int (nI w), .int (nI h), .ref q1, .ref q2, .ref q3, .ref q4, .ref q5, .ref q6])), (q1, .inl (cy1, 100, .inl f1))] H := hP
          have hD : va_D A [(q2, .inl (cy2, 100, .inl f2)), (q3, .inl (cy3, 100, .inl f3)), (q5, .inl (cy5, 100, .inl f5)), (q6, .inl (cy6, 100, .inl g_11)), (h0, .inr (5, [.int (nI w), .int (nI h), .ref q1, .ref q2, .ref q3, .ref q4, .ref q5, .ref q6])), (q1, .inl (cy1, 100, .inl f1))] := hD
          refine lv_iload_n hx hb dX6_markBreaking_94 rfl (lv_at hl 4 rfl) ?_
          refine lv_if_ne (tgt := 108) hx hb dX6_markBreaking_95 (by decide) (fun c_12 => ?_) (fun c_12 => ?_)
          · skip
            refine lv_iconst (v := 1) hx hb dX6_markBreaking_108 (by decide) ?_
            refine lv_goto (tgt := 113) hx hb dX6_markBreaking_109 (by decide) ?_
            refine lv_istore_n (lv' := [(2, .int 1), (6, .int 1), (5, .int (nI (j * 10 + i))), (0, .ref h0), (1, .int b), (3, .int (nI j)), (4, .int (nI i))]) hx hb dX6_markBreaking_113 rfl hl (by decide) rfl (fun ls hl => ?_)
            refine lv_iinc (v := nI (i + 1)) (lv' := [(4, .int (nI (i + 1))), (2, .int 1), (6, .int 1), (5, .int (nI (j * 10 + i))), (0, .ref h0), (1, .int b), (3, .int (nI j))]) hx hb dX6_markBreaking_114 hl (k := 6) rfl (nI_add i 1) (by decide) rfl (fun ls hl => ?_)
            refine lv_goto (tgt := 15) hx hb dX6_markBreaking_117 (by decide) ?_
            exact ih g_11 1 (i + 1) (by omega) (by omega) (by omega) (by omega) (Or.inr rfl) (by omega) H locs (hP.sub [4, 5, 0, 1, 2, 3] rfl) (hD.sub [4, 5, 0, 1, 2, 3] (by decide) rfl) hS ls (lv_sub hl [4, 5, 1, 6, 0] rfl)
          · skip
            refine lv_aload_n hx hb dX6_markBreaking_98 rfl (lv_at hl 2 rfl) ?_
            refine va_get (D := D) (ci := 5) (v := .ref q6) (C := RX6) (T := TX6) (N := 8) hx hb hts inG_X6 hown hK hP 4 rfl rfl 7 (by decide) (hts _ kw_1_159) (fun _ h9 => h9) rfl dX6_markBreaking_99 ?_
            refine lv_iload hx hb dX6_markBreaking_102 (lv_at hl 1 rfl) ?_
            refine m_zald hx hb hK hP 3 4 rfl rfl (j * 10 + i) rfl (by omega) (by decide) dX6_markBreaking_104 ?_
            refine lv_topi (fun v_13 ev_13 => ?_)
            refine lv_if_eq (tgt := 112) hx hb dX6_markBreaking_105 (by decide) (fun c_14 => ?_) (fun c_14 => ?_)
            · skip
              refine lv_iconst (v := 0) hx hb dX6_markBreaking_112 (by decide) ?_
              refine lv_istore_n (lv' := [(2, .int 0), (6, .int 1), (5, .int (nI (j * 10 + i))), (0, .ref h0), (1, .int b), (3, .int (nI j)), (4, .int (nI i))]) hx hb dX6_markBreaking_113 rfl hl (by decide) rfl (fun ls hl => ?_)
              refine lv_iinc (v := nI (i + 1)) (lv' := [(4, .int (nI (i + 1))), (2, .int 0), (6, .int 1), (5, .int (nI (j * 10 + i))), (0, .ref h0), (1, .int b), (3, .int (nI j))]) hx hb dX6_markBreaking_114 hl (k := 6) rfl (nI_add i 1) (by decide) rfl (fun ls hl => ?_)
              refine lv_goto (tgt := 15) hx hb dX6_markBreaking_117 (by decide) ?_
              exact ih g_11 0 (i + 1) (by omega) (by omega) (by omega) (by omega) (Or.inl rfl) (by omega) H locs (hP.sub [4, 5, 0, 1, 2, 3] rfl) (hD.sub [4, 5, 0, 1, 2, 3] (by decide) rfl) hS ls (lv_sub hl [4, 5, 1, 6, 0] rfl)
            · skip
              refine lv_iconst (v := 1) hx hb dX6_markBreaking_108 (by decide) ?_
              refine lv_goto (tgt := 113) hx hb dX6_markBreaking_109 (by decide) ?_
              refine lv_istore_n (lv' := [(2, .int 1), (6, .int 1), (5, .int (nI (j * 10 + i))), (0, .ref h0), (1, .int b), (3, .int (nI j)), (4, .int (nI i))]) hx hb dX6_markBreaking_113 rfl hl (by decide) rfl (fun ls hl => ?_)
              refine lv_iinc (v := nI (i + 1)) (lv' := [(4, .int (nI (i + 1))), (2, .int 1), (6, .int 1), (5, .int (nI (j * 10 + i))), (0, .ref h0), (1, .int b), (3, .int (nI j))]) hx hb dX6_markBreaking_114 hl (k := 6) rfl (nI_add i 1) (by decide) rfl (fun ls hl => ?_)
              refine lv_goto (tgt := 15) hx hb dX6_markBreaking_117 (by decide) ?_
              exact ih g_11 1 (i + 1) (by omega) (by omega) (by omega) (by omega) (Or.inr rfl) (by omega) H locs (hP.sub [4, 5, 0, 1, 2, 3] rfl) (hD.sub [4, 5, 0, 1, 2, 3] (by decide) rfl) hS ls (lv_sub hl [4, 5, 1, 6, 0] rfl)
        · skip
          refine lv_iconst (v := 1) hx hb dX6_markBreaking_88 (by decide) ?_
          refine lv_goto (tgt := 93) hx hb dX6_markBreaking_89 (by decide) ?_
          refine m_zast hx hb hK hP hD hS 3 4 rfl rfl (j * 10 + i) rfl (by omega) (by decide) dX6_markBreaking_93 (fun g_15 H locs eg_15 hP hD hS => ?_)
          have hP : va_P D vwCl [(q2, .inl (cy2, 100, .inl f2)), (q3, .inl (cy3, 100, .inl f3)), (q5, .inl (cy5, 100, .inl f5)), (q6, .inl (cy6, 100, .inl g_15)), (h0, .inr (5, [.int (nI w), .int (nI h), .ref q1, .ref q2, .ref q3, .ref q4, .ref q5, .ref q6])), (q1, .inl (cy1, 100, .inl f1))] H := hP
          have hD : va_D A [(q2, .inl (cy2, 100, .inl f2)), (q3, .inl (cy3, 100, .inl f3)), (q5, .inl (cy5, 100, .inl f5)), (q6, .inl (cy6, 100, .inl g_15)), (h0, .inr (5, [.int (nI w), .int (nI h), .ref q1, .ref q2, .ref q3, .ref q4, .ref q5, .ref q6])), (q1, .inl (cy1, 100, .inl f1))] := hD
          refine lv_iload_n hx hb dX6_markBreaking_94 rfl (lv_at hl 4 rfl) ?_
          refine lv_if_ne (tgt := 108) hx hb dX6_markBreaking_95 (by decide) (fun c_16 => ?_) (fun c_16 => ?_)
          · skip
            refine lv_iconst (v := 1) hx hb dX6_markBreaking_108 (by decide) ?_
            refine lv_goto (tgt := 113) hx hb dX6_markBreaking_109 (by decide) ?_
            refine lv_istore_n (lv' := [(2, .int 1), (6, .int 1), (5, .int (nI (j * 10 + i))), (0, .ref h0), (1, .int b), (3, .int (nI j)), (4, .int (nI i))]) hx hb dX6_markBreaking_113 rfl hl (by decide) rfl (fun ls hl => ?_)
            refine lv_iinc (v := nI (i + 1)) (lv' := [(4, .int (nI (i + 1))), (2, .int 1), (6, .int 1), (5, .int (nI (j * 10 + i))), (0, .ref h0), (1, .int b), (3, .int (nI j))]) hx hb dX6_markBreaking_114 hl (k := 6) rfl (nI_add i 1) (by decide) rfl (fun ls hl => ?_)
            refine lv_goto (tgt := 15) hx hb dX6_markBreaking_117 (by decide) ?_
            exact ih g_15 1 (i + 1) (by omega) (by omega) (by omega) (by omega) (Or.inr rfl) (by omega) H locs (hP.sub [4, 5, 0, 1, 2, 3] rfl) (hD.sub [4, 5, 0, 1, 2, 3] (by decide) rfl) hS ls (lv_sub hl [4, 5, 1, 6, 0] rfl)
          · skip
            refine lv_aload_n hx hb dX6_markBreaking_98 rfl (lv_at hl 2 rfl) ?_
            refine va_get (D := D) (ci := 5) (v := .ref q6) (C := RX6) (T := TX6) (N := 8) hx hb hts inG_X6 hown hK hP 4 rfl rfl 7 (by decide) (hts _ kw_1_159) (fun _ h9 => h9) rfl dX6_markBreaking_99 ?_
            refine lv_iload hx hb dX6_markBreaking_102 (lv_at hl 1 rfl) ?_
            refine m_zald hx hb hK hP 3 4 rfl rfl (j * 10 + i) rfl (by omega) (by decide) dX6_markBreaking_104 ?_
            refine lv_topi (fun v_17 ev_17 => ?_)
            refine lv_if_eq (tgt := 112) hx hb dX6_markBreaking_105 (by decide) (fun c_18 => ?_) (fun c_18 => ?_)
            · skip
              refine lv_iconst (v := 0) hx hb dX6_markBreaking_112 (by decide) ?_
              refine lv_istore_n (lv' := [(2, .int 0), (6, .int 1), (5, .int (nI (j * 10 + i))), (0, .ref h0), (1, .int b), (3, .int (nI j)), (4, .int (nI i))]) hx hb dX6_markBreaking_113 rfl hl (by decide) rfl (fun ls hl => ?_)
              refine lv_iinc (v := nI (i + 1)) (lv' := [(4, .int (nI (i + 1))), (2, .int 0), (6, .int 1), (5, .int (nI (j * 10 + i))), (0, .ref h0), (1, .int b), (3, .int (nI j))]) hx hb dX6_markBreaking_114 hl (k := 6) rfl (nI_add i 1) (by decide) rfl (fun ls hl => ?_)
              refine lv_goto (tgt := 15) hx hb dX6_markBreaking_117 (by decide) ?_
              exact ih g_15 0 (i + 1) (by omega) (by omega) (by omega) (by omega) (Or.inl rfl) (by omega) H locs (hP.sub [4, 5, 0, 1, 2, 3] rfl) (hD.sub [4, 5, 0, 1, 2, 3] (by decide) rfl) hS ls (lv_sub hl [4, 5, 1, 6, 0] rfl)
            · skip
              refine lv_iconst (v := 1) hx hb dX6_markBreaking_108 (by decide) ?_
              refine lv_goto (tgt := 113) hx hb dX6_markBreaking_109 (by decide) ?_
              refine lv_istore_n (lv' := [(2, .int 1), (6, .int 1), (5, .int (nI (j * 10 + i))), (0, .ref h0), (1, .int b), (3, .int (nI j)), (4, .int (nI i))]) hx hb dX6_markBreaking_113 rfl hl (by decide) rfl (fun ls hl => ?_)
              refine lv_iinc (v := nI (i + 1)) (lv' := [(4, .int (nI (i + 1))), (2, .int 1), (6, .int 1), (5, .int (nI (j * 10 + i))), (0, .ref h0), (1, .int b), (3, .int (nI j))]) hx hb dX6_markBreaking_114 hl (k := 6) rfl (nI_add i 1) (by decide) rfl (fun ls hl => ?_)
              refine lv_goto (tgt := 15) hx hb dX6_markBreaking_117 (by decide) ?_
              exact ih g_15 1 (i + 1) (by omega) (by omega) (by omega) (by omega) (Or.inr rfl) (by omega) H locs (hP.sub [4, 5, 0, 1, 2, 3] rfl) (hD.sub [4, 5, 0, 1, 2, 3] (by decide) rfl) hS ls (lv_sub hl [4, 5, 1, 6, 0] rfl)
      · skip
        refine lv_aload_n hx hb dX6_markBreaking_50 rfl (lv_at hl 1 rfl) ?_
        refine va_get (D := D) (ci := 5) (v := .ref q2) (C := RX6) (T := TX6) (N := 8) hx hb hts inG_X6 hown hK hP 4 rfl rfl 3 (by decide) (hts _ kw_1_150) (fun _ h9 => h9) rfl dX6_markBreaking_51 ?_
        refine lv_iload hx hb dX6_markBreaking_54 (lv_at hl 0 rfl) ?_
        refine m_iald hx hb hK hP 0 1 rfl rfl (j * 10 + i) rfl (by omega) (by decide) dX6_markBreaking_56 ?_
        refine lv_topi (fun v_19 ev_19 => ?_)
        refine lv_if_ne (tgt := 64) hx hb dX6_markBreaking_57 (by decide) (fun c_20 => ?_) (fun c_20 => ?_)
        · skip
          refine lv_iconst (v := 0) hx hb dX6_markBreaking_64 (by decide) ?_
          refine lv_istore (lv' := [(6, .int 0), (5, .int (nI (j * 10 + i))), (0, .ref h0), (1, .int b), (2, .int an), (3, .int (nI j)), (4, .int (nI i))]) hx hb dX6_markBreaking_65 hl (by decide) rfl (fun ls hl => ?_)
          refine lv_aload_n hx hb dX6_markBreaking_67 rfl (lv_at hl 2 rfl) ?_
          refine va_get (D := D) (ci := 5) (v := .ref q6) (C := RX6) (T := TX6) (N := 8) hx hb hts inG_X6 hown hK hP 4 rfl rfl 7 (by decide) (hts _ kw_1_159) (fun _ h9 => h9) rfl dX6_markBreaking_68 ?_
          refine lv_iload hx hb dX6_markBreaking_71 (lv_at hl 1 rfl) ?_
          refine lv_iload hx hb dX6_markBreaking_73 (lv_at hl 0 rfl) ?_
          refine lv_if_eq (tgt := 92) hx hb dX6_markBreaking_75 (by decide) (fun c_21 => ?_) (fun c_21 => absurd c_21 (by decide))
          refine lv_iconst (v := 0) hx hb dX6_markBreaking_92 (by decide) ?_
          refine m_zast hx hb hK hP hD hS 3 4 rfl rfl (j * 10 + i) rfl (by omega) (by decide) dX6_markBreaking_93 (fun g_22 H locs eg_22 hP hD hS => ?_)
          have hP : va_P D vwCl [(q2, .inl (cy2, 100, .inl f2)), (q3, .inl (cy3, 100, .inl f3)), (q5, .inl (cy5, 100, .inl f5)), (q6, .inl (cy6, 100, .inl g_22)), (h0, .inr (5, [.int (nI w), .int (nI h), .ref q1, .ref q2, .ref q3, .ref q4, .ref q5, .ref q6])), (q1, .inl (cy1, 100, .inl f1))] H := hP
          have hD : va_D A [(q2, .inl (cy2, 100, .inl f2)), (q3, .inl (cy3, 100, .inl f3)), (q5, .inl (cy5, 100, .inl f5)), (q6, .inl (cy6, 100, .inl g_22)), (h0, .inr (5, [.int (nI w), .int (nI h), .ref q1, .ref q2, .ref q3, .ref q4, .ref q5, .ref q6])), (q1, .inl (cy1, 100, .inl f1))] := hD
          refine lv_iload_n hx hb dX6_markBreaking_94 rfl (lv_at hl 4 rfl) ?_
          refine lv_if_ne (tgt := 108) hx hb dX6_markBreaking_95 (by decide) (fun c_23 => ?_) (fun c_23 => ?_)
          · skip
            refine lv_iconst (v := 1) hx hb dX6_markBreaking_108 (by decide) ?_
            refine lv_goto (tgt := 113) hx hb dX6_markBreaking_109 (by decide) ?_
            refine lv_istore_n (lv' := [(2, .int 1), (6, .int 0), (5, .int (nI (j * 10 + i))), (0, .ref h0), (1, .int b), (3, .int (nI j)), (4, .int (nI i))]) hx hb dX6_markBreaking_113 rfl hl (by decide) rfl (fun ls hl => ?_)
            refine lv_iinc (v := nI (i + 1)) (lv' := [(4, .int (nI (i + 1))), (2, .int 1), (6, .int 0), (5, .int (nI (j * 10 + i))), (0, .ref h0), (1, .int b), (3, .int (nI j))]) hx hb dX6_markBreaking_114 hl (k := 6) rfl (nI_add i 1) (by decide) rfl (fun ls hl => ?_)
            refine lv_goto (tgt := 15) hx hb dX6_markBreaking_117 (by decide) ?_
            exact ih g_22 1 (i + 1) (by omega) (by omega) (by omega) (by omega) (Or.inr rfl) (by omega) H locs (hP.sub [4, 5, 0, 1, 2, 3] rfl) (hD.sub [4, 5, 0, 1, 2, 3] (by decide) rfl) hS ls (lv_sub hl [4, 5, 1, 6, 0] rfl)
          · skip
            refine lv_aload_n hx hb dX6_markBreaking_98 rfl (lv_at hl 2 rfl) ?_
            refine va_get (D := D) (ci := 5) (v := .ref q6) (C := RX6) (T := TX6) (N := 8) hx hb hts inG_X6 hown hK hP 4 rfl rfl 7 (by decide) (hts _ kw_1_159) (fun _ h9 => h9) rfl dX6_markBreaking_99 ?_
            refine lv_iload hx hb dX6_markBreaking_102 (lv_at hl 1 rfl) ?_
            refine m_zald hx hb hK hP 3 4 rfl rfl (j * 10 + i) rfl (by omega) (by decide) dX6_markBreaking_104 ?_
            refine lv_topi (fun v_24 ev_24 => ?_)
            refine lv_if_eq (tgt := 112) hx hb dX6_markBreaking_105 (by decide) (fun c_25 => ?_) (fun c_25 => ?_)
            · skip
              refine lv_iconst (v := 0) hx hb dX6_markBreaking_112 (by decide) ?_
              refine lv_istore_n (lv' := [(2, .int 0), (6, .int 0), (5, .int (nI (j * 10 + i))), (0, .ref h0), (1, .int b), (3, .int (nI j)), (4, .int (nI i))]) hx hb dX6_markBreaking_113 rfl hl (by decide) rfl (fun ls hl => ?_)
              refine lv_iinc (v := nI (i + 1)) (lv' := [(4, .int (nI (i + 1))), (2, .int 0), (6, .int 0), (5, .int (nI (j * 10 + i))), (0, .ref h0), (1, .int b), (3, .int (nI j))]) hx hb dX6_markBreaking_114 hl (k := 6) rfl (nI_add i 1) (by decide) rfl (fun ls hl => ?_)
              refine lv_goto (tgt := 15) hx hb dX6_markBreaking_117 (by decide) ?_
              exact ih g_22 0 (i + 1) (by omega) (by omega) (by omega) (by omega) (Or.inl rfl) (by omega) H locs (hP.sub [4, 5, 0, 1, 2, 3] rfl) (hD.sub [4, 5, 0, 1, 2, 3] (by decide) rfl) hS ls (lv_sub hl [4, 5, 1, 6, 0] rfl)
            · skip
              refine lv_iconst (v := 1) hx hb dX6_markBreaking_108 (by decide) ?_
              refine lv_goto (tgt := 113) hx hb dX6_markBreaking_109 (by decide) ?_
              refine lv_istore_n (lv' := [(2, .int 1), (6, .int 0), (5, .int (nI (j * 10 + i))), (0, .ref h0), (1, .int b), (3, .int (nI j)), (4, .int (nI i))]) hx hb dX6_markBreaking_113 rfl hl (by decide) rfl (fun ls hl => ?_)
              refine lv_iinc (v := nI (i + 1)) (lv' := [(4, .int (nI (i + 1))), (2, .int 1), (6, .int 0), (5, .int (nI (j * 10 + i))), (0, .ref h0), (1, .int b), (3, .int (nI j))]) hx hb dX6_markBreaking_114 hl (k := 6) rfl (nI_add i 1) (by decide) rfl (fun ls hl => ?_)
              refine lv_goto (tgt := 15) hx hb dX6_markBreaking_117 (by decide) ?_
              exact ih g_22 1 (i + 1) (by omega) (by omega) (by omega) (by omega) (Or.inr rfl) (by omega) H locs (hP.sub [4, 5, 0, 1, 2, 3] rfl) (hD.sub [4, 5, 0, 1, 2, 3] (by decide) rfl) hS ls (lv_sub hl [4, 5, 1, 6, 0] rfl)
        · skip
          refine lv_iconst (v := 1) hx hb dX6_markBreaking_60 (by decide) ?_
          refine lv_goto (tgt := 65) hx hb dX6_markBreaking_61 (by decide) ?_
          refine lv_istore (lv' := [(6, .int 1), (5, .int (nI (j * 10 + i))), (0, .ref h0), (1, .int b), (2, .int an), (3, .int (nI j)), (4, .int (nI i))]) hx hb dX6_markBreaking_65 hl (by decide) rfl (fun ls hl => ?_)
          refine lv_aload_n hx hb dX6_markBreaking_67 rfl (lv_at hl 2 rfl) ?_
          refine va_get (D := D) (ci := 5) (v := .ref q6) (C := RX6) (T := TX6) (N := 8) hx hb hts inG_X6 hown hK hP 4 rfl rfl 7 (by decide) (hts _ kw_1_159) (fun _ h9 => h9) rfl dX6_markBreaking_68 ?_
          refine lv_iload hx hb dX6_markBreaking_71 (lv_at hl 1 rfl) ?_
          refine lv_iload hx hb dX6_markBreaking_73 (lv_at hl 0 rfl) ?_
          refine lv_if_eq (tgt := 92) hx hb dX6_markBreaking_75 (by decide) (fun c_26 => absurd c_26 (by decide)) (fun c_26 => ?_)
          refine lv_aload_n hx hb dX6_markBreaking_78 rfl (lv_at hl 2 rfl) ?_
          refine va_get (D := D) (ci := 5) (v := .ref q5) (C := RX6) (T := TX6) (N := 8) hx hb hts inG_X6 hown hK hP 4 rfl rfl 6 (by decide) (hts _ kw_1_157) (fun _ h9 => h9) rfl dX6_markBreaking_79 ?_
          refine lv_iload hx hb dX6_markBreaking_82 (lv_at hl 1 rfl) ?_
          refine m_zald hx hb hK hP 2 3 rfl rfl (j * 10 + i) rfl (by omega) (by decide) dX6_markBreaking_84 ?_
          refine lv_topi (fun v_27 ev_27 => ?_)
          refine lv_if_ne (tgt := 92) hx hb dX6_markBreaking_85 (by decide) (fun c_28 => ?_) (fun c_28 => ?_)
          · skip
            refine lv_iconst (v := 0) hx hb dX6_markBreaking_92 (by decide) ?_
            refine m_zast hx hb hK hP hD hS 3 4 rfl rfl (j * 10 + i) rfl (by omega) (by decide) dX6_markBreaking_93 (fun g_29 H locs eg_29 hP hD hS => ?_)
            have hP : va_P D vwCl [(q2, .inl (cy2, 100, .inl f2)), (q3, .inl (cy3, 100, .inl f3)), (q5, .inl (cy5, 100, .inl f5)), (q6, .inl (cy6, 100, .inl g_29)), (h0, .inr (5, [.int (nI w), .int (nI h), .ref q1, .ref q2, .ref q3, .ref q4, .ref q5, .ref q6])), (q1, .inl (cy1, 100, .inl f1))] H := hP
            have hD : va_D A [(q2, .inl (cy2, 100, .inl f2)), (q3, .inl (cy3, 100, .inl f3)), (q5, .inl (cy5, 100, .inl f5)), (q6, .inl (cy6, 100, .inl g_29)), (h0, .inr (5, [.int (nI w), .int (nI h), .ref q1, .ref q2, .ref q3, .ref q4, .ref q5, .ref q6])), (q1, .inl (cy1, 100, .inl f1))] := hD
            refine lv_iload_n hx hb dX6_markBreaking_94 rfl (lv_at hl 4 rfl) ?_
            refine lv_if_ne (tgt := 108) hx hb dX6_markBreaking_95 (by decide) (fun c_30 => ?_) (fun c_30 => ?_)
            · skip
              refine lv_iconst (v := 1) hx hb dX6_markBreaking_108 (by decide) ?_
              refine lv_goto (tgt := 113) hx hb dX6_markBreaking_109 (by decide) ?_
              refine lv_istore_n (lv' := [(2, .int 1), (6, .int 1), (5, .int (nI (j * 10 + i))), (0, .ref h0), (1, .int b), (3, .int (nI j)), (4, .int (nI i))]) hx hb dX6_markBreaking_113 rfl hl (by decide) rfl (fun ls hl => ?_)
              refine lv_iinc (v := nI (i + 1)) (lv' := [(4, .int (nI (i + 1))), (2, .int 1), (6, .int 1), (5, .int (nI (j * 10 + i))), (0, .ref h0), (1, .int b), (3, .int (nI j))]) hx hb dX6_markBreaking_114 hl (k := 6) rfl (nI_add i 1) (by decide) rfl (fun ls hl => ?_)
              refine lv_goto (tgt := 15) hx hb dX6_markBreaking_117 (by decide) ?_
              exact ih g_29 1 (i + 1) (by omega) (by omega) (by omega) (by omega) (Or.inr rfl) (by omega) H locs (hP.sub [4, 5, 0, 1, 2, 3] rfl) (hD.sub [4, 5, 0, 1, 2, 3] (by decide) rfl) hS ls (lv_sub hl [4, 5, 1, 6, 0] rfl)
            · skip
              refine lv_aload_n hx hb dX6_markBreaking_98 rfl (lv_at hl 2 rfl) ?_
              refine va_get (D := D) (ci := 5) (v := .ref q6) (C := RX6) (T := TX6) (N := 8) hx hb hts inG_X6 hown hK hP 4 rfl rfl 7 (by decide) (hts _ kw_1_159) (fun _ h9 => h9) rfl dX6_markBreaking_99 ?_
              refine lv_iload hx hb dX6_markBreaking_102 (lv_at hl 1 rfl) ?_
              refine m_zald hx hb hK hP 3 4 rfl rfl (j * 10 + i) rfl (by omega) (by decide) dX6_markBreaking_104 ?_
              refine lv_topi (fun v_31 ev_31 => ?_)
              refine lv_if_eq (tgt := 112) hx hb dX6_markBreaking_105 (by decide) (fun c_32 => ?_) (fun c_32 => ?_)
              · skip
                refine lv_iconst (v := 0) hx hb dX6_markBreaking_112 (by decide) ?_
                refine lv_istore_n (lv' := [(2, .int 0), (6, .int 1), (5, .int (nI (j * 10 + i))), (0, .ref h0), (1, .int b), (3, .int (nI j)), (4, .int (nI i))]) hx hb dX6_markBreaking_113 rfl hl (by decide) rfl (fun ls hl => ?_)
                refine lv_iinc (v := nI (i + 1)) (lv' := [(4, .int (nI (i + 1))), (2, .int 0), (6, .int 1), (5, .int (nI (j * 10 + i))), (0, .ref h0), (1, .int b), (3, .int (nI j))]) hx hb dX6_markBreaking_114 hl (k := 6) rfl (nI_add i 1) (by decide) rfl (fun ls hl => ?_)
                refine lv_goto (tgt := 15) hx hb dX6_markBreaking_117 (by decide) ?_
                exact ih g_29 0 (i + 1) (by omega) (by omega) (by omega) (by omega) (Or.inl rfl) (by omega) H locs (hP.sub [4, 5, 0, 1, 2, 3] rfl) (hD.sub [4, 5, 0, 1, 2, 3] (by decide) rfl) hS ls (lv_sub hl [4, 5, 1, 6, 0] rfl)
              · skip
                refine lv_iconst (v := 1) hx hb dX6_markBreaking_108 (by decide) ?_
                refine lv_goto (tgt := 113) hx hb dX6_markBreaking_109 (by decide) ?_
                refine lv_istore_n (lv' := [(2, .int 1), (6, .int 1), (5, .int (nI (j * 10 + i))), (0, .ref h0), (1, .int b), (3, .int (nI j)), (4, .int (nI i))]) hx hb dX6_markBreaking_113 rfl hl (by decide) rfl (fun ls hl => ?_)
                refine lv_iinc (v := nI (i + 1)) (lv' := [(4, .int (nI (i + 1))), (2, .int 1), (6, .int 1), (5, .int (nI (j * 10 + i))), (0, .ref h0), (1, .int b), (3, .int (nI j))]) hx hb dX6_markBreaking_114 hl (k := 6) rfl (nI_add i 1) (by decide) rfl (fun ls hl => ?_)
                refine lv_goto (tgt := 15) hx hb dX6_markBreaking_117 (by decide) ?_
                exact ih g_29 1 (i + 1) (by omega) (by omega) (by omega) (by omega) (Or.inr rfl) (by omega) H locs (hP.sub [4, 5, 0, 1, 2, 3] rfl) (hD.sub [4, 5, 0, 1, 2, 3] (by decide) rfl) hS ls (lv_sub hl [4, 5, 1, 6, 0] rfl)
          · skip
            refine lv_iconst (v := 1) hx hb dX6_markBreaking_88 (by decide) ?_
            refine lv_goto (tgt := 93) hx hb dX6_markBreaking_89 (by decide) ?_
            refine m_zast hx hb hK hP hD hS 3 4 rfl rfl (j * 10 + i) rfl (by omega) (by decide) dX6_markBreaking_93 (fun g_33 H locs eg_33 hP hD hS => ?_)
            have hP : va_P D vwCl [(q2, .inl (cy2, 100, .inl f2)), (q3, .inl (cy3, 100, .inl f3)), (q5, .inl (cy5, 100, .inl f5)), (q6, .inl (cy6, 100, .inl g_33)), (h0, .inr (5, [.int (nI w), .int (nI h), .ref q1, .ref q2, .ref q3, .ref q4, .ref q5, .ref q6])), (q1, .inl (cy1, 100, .inl f1))] H := hP
            have hD : va_D A [(q2, .inl (cy2, 100, .inl f2)), (q3, .inl (cy3, 100, .inl f3)), (q5, .inl (cy5, 100, .inl f5)), (q6, .inl (cy6, 100, .inl g_33)), (h0, .inr (5, [.int (nI w), .int (nI h), .ref q1, .ref q2, .ref q3, .ref q4, .ref q5, .ref q6])), (q1, .inl (cy1, 100, .inl f1))] := hD
            refine lv_iload_n hx hb dX6_markBreaking_94 rfl (lv_at hl 4 rfl) ?_
            refine lv_if_ne (tgt := 108) hx hb dX6_markBreaking_95 (by decide) (fun c_34 => ?_) (fun c_34 => ?_)
            · skip
              refine lv_iconst (v := 1) hx hb dX6_markBreaking_108 (by decide) ?_
              refine lv_goto (tgt := 113) hx hb dX6_markBreaking_109 (by decide) ?_
              refine lv_istore_n (lv' := [(2, .int 1), (6, .int 1), (5, .int (nI (j * 10 + i))), (0, .ref h0), (1, .int b), (3, .int (nI j)), (4, .int (nI i))]) hx hb dX6_markBreaking_113 rfl hl (by decide) rfl (fun ls hl => ?_)
              refine lv_iinc (v := nI (i + 1)) (lv' := [(4, .int (nI (i + 1))), (2, .int 1), (6, .int 1), (5, .int (nI (j * 10 + i))), (0, .ref h0), (1, .int b), (3, .int (nI j))]) hx hb dX6_markBreaking_114 hl (k := 6) rfl (nI_add i 1) (by decide) rfl (fun ls hl => ?_)
              refine lv_goto (tgt := 15) hx hb dX6_markBreaking_117 (by decide) ?_
              exact ih g_33 1 (i + 1) (by omega) (by omega) (by omega) (by omega) (Or.inr rfl) (by omega) H locs (hP.sub [4, 5, 0, 1, 2, 3] rfl) (hD.sub [4, 5, 0, 1, 2, 3] (by decide) rfl) hS ls (lv_sub hl [4, 5, 1, 6, 0] rfl)
            · skip
              refine lv_aload_n hx hb dX6_markBreaking_98 rfl (lv_at hl 2 rfl) ?_
              refine va_get (D := D) (ci := 5) (v := .ref q6) (C := RX6) (T := TX6) (N := 8) hx hb hts inG_X6 hown hK hP 4 rfl rfl 7 (by decide) (hts _ kw_1_159) (fun _ h9 => h9) rfl dX6_markBreaking_99 ?_
              refine lv_iload hx hb dX6_markBreaking_102 (lv_at hl 1 rfl) ?_
              refine m_zald hx hb hK hP 3 4 rfl rfl (j * 10 + i) rfl (by omega) (by decide) dX6_markBreaking_104 ?_
              refine lv_topi (fun v_35 ev_35 => ?_)
              refine lv_if_eq (tgt := 112) hx hb dX6_markBreaking_105 (by decide) (fun c_36 => ?_) (fun c_36 => ?_)
              · skip
                refine lv_iconst (v := 0) hx hb dX6_markBreaking_112 (by decide) ?_
                refine lv_istore_n (lv' := [(2, .int 0), (6, .int 1), (5, .int (nI (j * 10 + i))), (0, .ref h0), (1, .int b), (3, .int (nI j)), (4, .int (nI i))]) hx hb dX6_markBreaking_113 rfl hl (by decide) rfl (fun ls hl => ?_)
                refine lv_iinc (v := nI (i + 1)) (lv' := [(4, .int (nI (i + 1))), (2, .int 0), (6, .int 1), (5, .int (nI (j * 10 + i))), (0, .ref h0), (1, .int b), (3, .int (nI j))]) hx hb dX6_markBreaking_114 hl (k := 6) rfl (nI_add i 1) (by decide) rfl (fun ls hl => ?_)
                refine lv_goto (tgt := 15) hx hb dX6_markBreaking_117 (by decide) ?_
                exact ih g_33 0 (i + 1) (by omega) (by omega) (by omega) (by omega) (Or.inl rfl) (by omega) H locs (hP.sub [4, 5, 0, 1, 2, 3] rfl) (hD.sub [4, 5, 0, 1, 2, 3] (by decide) rfl) hS ls (lv_sub hl [4, 5, 1, 6, 0] rfl)
              · skip
                refine lv_iconst (v := 1) hx hb dX6_markBreaking_108 (by decide) ?_
                refine lv_goto (tgt := 113) hx hb dX6_markBreaking_109 (by decide) ?_
                refine lv_istore_n (lv' := [(2, .int 1), (6, .int 1), (5, .int (nI (j * 10 + i))), (0, .ref h0), (1, .int b), (3, .int (nI j)), (4, .int (nI i))]) hx hb dX6_markBreaking_113 rfl hl (by decide) rfl (fun ls hl => ?_)
                refine lv_iinc (v := nI (i + 1)) (lv' := [(4, .int (nI (i + 1))), (2, .int 1), (6, .int 1), (5, .int (nI (j * 10 + i))), (0, .ref h0), (1, .int b), (3, .int (nI j))]) hx hb dX6_markBreaking_114 hl (k := 6) rfl (nI_add i 1) (by decide) rfl (fun ls hl => ?_)
                refine lv_goto (tgt := 15) hx hb dX6_markBreaking_117 (by decide) ?_
                exact ih g_33 1 (i + 1) (by omega) (by omega) (by omega) (by omega) (Or.inr rfl) (by omega) H locs (hP.sub [4, 5, 0, 1, 2, 3] rfl) (hD.sub [4, 5, 0, 1, 2, 3] (by decide) rfl) hS ls (lv_sub hl [4, 5, 1, 6, 0] rfl)
theorem dX6_markBreaking_4 : decode cX6_markBreaking 4 = .ok (.iload_n 3, 1) := by decide +kernel
theorem dX6_markBreaking_5 : decode cX6_markBreaking 5 = .ok (.aload_n 0, 1) := by decide +kernel
theorem dX6_markBreaking_6 : decode cX6_markBreaking 6 = .ok (.getfield 39, 3) := by decide +kernel
theorem dX6_markBreaking_9 : decode cX6_markBreaking 9 = .ok (.if_icmp .ge 117, 3) := by decide +kernel
theorem dX6_markBreaking_12 : decode cX6_markBreaking 12 = .ok (.iconst 0, 1) := by decide +kernel
theorem dX6_markBreaking_13 : decode cX6_markBreaking 13 = .ok (.istore 4, 2) := by decide +kernel
theorem dX6_markBreaking_120 : decode cX6_markBreaking 120 = .ok (.iinc 3 1, 3) := by decide +kernel
theorem dX6_markBreaking_123 : decode cX6_markBreaking 123 = .ok (.goto (-119), 3) := by decide +kernel
set_option maxHeartbeats 4000000 in
set_option maxRecDepth 100000 in
theorem lp_mark_out {p : Program} {l : Launch} {e : Env} {s : State} {m : MethodId} {args : Array Value} {below : List Frame} {meth : Method} {c : Code} {Q : State → Prop} {A : Nat → Prop} {D : va_G} (F : mFix p s m args c cX6_markBreaking 7 RX6) (hA : ∀ q, s.heap.size ≤ q → A q) (h0 : Nat) (q1 : Nat) (q2 : Nat) (q3 : Nat) (q4 : Nat) (q5 : Nat) (q6 : Nat) (cy1 : ClassId) (cy2 : ClassId) (cy3 : ClassId) (cy5 : ClassId) (cy6 : ClassId) (f1 : Nat → Int32) (f2 : Nat → Int32) (f3 : Nat → Int32) (f5 : Nat → Int32) (w : Nat) (h : Nat) (b : Int32) (hK : va_K D vwCl [(cy1, .int), (cy2, .int), (cy3, .int), (cy5, .boolean), (cy6, .boolean)] s)
    (kx_126 : ∀ (g6 : Nat → Int32) (an : Int32), (an = 0 ∨ an = 1) → ∀ (H : Heap) (locs : List Loc), va_P D vwCl [(h0, .inr (5, [.int (nI w), .int (nI h), .ref q1, .ref q2, .ref q3, .ref q4, .ref q5, .ref q6])), (q1, .inl (cy1, 100, .inl f1)), (q2, .inl (cy2, 100, .inl f2)), (q3, .inl (cy3, 100, .inl f3)), (q5, .inl (cy5, 100, .inl f5)), (q6, .inl (cy6, 100, .inl g6))] H → va_D A [(h0, .inr (5, [.int (nI w), .int (nI h), .ref q1, .ref q2, .ref q3, .ref q4, .ref q5, .ref q6])), (q1, .inl (cy1, 100, .inl f1)), (q2, .inl (cy2, 100, .inl f2)), (q3, .inl (cy3, 100, .inl f3)), (q5, .inl (cy5, 100, .inl f5)), (q6, .inl (cy6, 100, .inl g6))] → va_S A s.heap H locs → ∀ ls : Array Slot, lv_has ls 7 [(2, .int an)] → W p l e ({ frames := 1, cells := 0, slots := 0, locals := 22 }) s m args below meth c H locs 0 0 Q (F0 m 126 ls [])) :
    ∀ n : Nat, ∀ (g6 : Nat → Int32) (an : Int32) (j : Nat), (j ≤ h) → (w ≤ 10) → (h ≤ 10) → (an = 0 ∨ an = 1) → (h - j) < n → ∀ (H : Heap) (locs : List Loc), va_P D vwCl [(h0, .inr (5, [.int (nI w), .int (nI h), .ref q1, .ref q2, .ref q3, .ref q4, .ref q5, .ref q6])), (q1, .inl (cy1, 100, .inl f1)), (q2, .inl (cy2, 100, .inl f2)), (q3, .inl (cy3, 100, .inl f3)), (q5, .inl (cy5, 100, .inl f5)), (q6, .inl (cy6, 100, .inl g6))] H → va_D A [(h0, .inr (5, [.int (nI w), .int (nI h), .ref q1, .ref q2, .ref q3, .ref q4, .ref q5, .ref q6])), (q1, .inl (cy1, 100, .inl f1)), (q2, .inl (cy2, 100, .inl f2)), (q3, .inl (cy3, 100, .inl f3)), (q5, .inl (cy5, 100, .inl f5)), (q6, .inl (cy6, 100, .inl g6))] → va_S A s.heap H locs → ∀ ls : Array Slot, lv_has ls 7 [(0, .ref h0), (1, .int b), (2, .int an), (3, .int (nI j))] → W p l e ({ frames := 1, cells := 0, slots := 0, locals := 22 }) s m args below meth c H locs 0 0 Q (F0 m 4 ls []) := by
  intro n
  induction n with
  | zero => intro g6 an j b1 h3 h4 ha hn; exact absurd hn (Nat.not_lt_zero _)
  | succ n ih =>
    intro g6 an j b1 h3 h4 ha hn H locs hP hD hS ls hl
    obtain ⟨hx, hb, hml, hown, hts⟩ := id F
    refine lv_iload_n hx hb dX6_markBreaking_4 rfl (lv_at hl 3 rfl) ?_
    refine lv_aload_n hx hb dX6_markBreaking_5 rfl (lv_at hl 0 rfl) ?_
    refine va_get (D := D) (ci := 5) (v := .int (nI h)) (C := RX6) (T := TX6) (N := 8) hx hb hts inG_X6 hown hK hP 0 rfl rfl 1 (by decide) (hts _ kw_1_145) (fun _ h9 => h9) rfl dX6_markBreaking_6 ?_
    refine lv_icmp_ge (tgt := 126) hx hb dX6_markBreaking_9 (by decide) (fun c_1 => ?_) (fun c_1 => ?_)
    · skip
      have c_1n : h ≤ j := (nI_leI (by omega) (by omega)).mp c_1
      have c_1 := Int32.not_lt.mpr c_1
      exact kx_126 g6 an ha H locs (hP.sub [0, 1, 2, 3, 4, 5] rfl) (hD.sub [0, 1, 2, 3, 4, 5] (by decide) rfl) hS ls (lv_sub hl [2] rfl)
    · skip
      have c_1n : j < h := nb_le (by omega) (by omega) c_1
      have c_1 := Int32.not_le.mp c_1
      refine lv_iconst (v := 0) hx hb dX6_markBreaking_12 (by decide) ?_
      refine lv_istore (lv' := [(4, .int 0), (0, .ref h0), (1, .int b), (2, .int an), (3, .int (nI j))]) hx hb dX6_markBreaking_13 hl (by decide) rfl (fun ls hl => ?_)
      refine lp_mark_in F hA h0 q1 q2 q3 q4 q5 q6 cy1 cy2 cy3 cy5 cy6 f1 f2 f3 f5 w h b j (hK.sub [0, 1, 2, 3, 4] rfl) (fun g6_2 an_3 h_4 H locs hP hD hS ls hl => ?_) _ g6 an 0 (by omega) (by omega) (by omega) (by omega) ha (Nat.lt_succ_self _) _ _ (hP.sub [0, 1, 2, 3, 4, 5] rfl) (hD.sub [0, 1, 2, 3, 4, 5] (by decide) rfl) hS ls (lv_sub hl [1, 2, 3, 4, 0] rfl)
      have h_4 : an_3 = 0 ∨ an_3 = 1 := h_4
      refine lv_iinc (v := nI (j + 1)) (lv' := [(3, .int (nI (j + 1))), (0, .ref h0), (1, .int b), (2, .int an_3)]) hx hb dX6_markBreaking_120 hl (k := 3) rfl (nI_add j 1) (by decide) rfl (fun ls hl => ?_)
      refine lv_goto (tgt := 4) hx hb dX6_markBreaking_123 (by decide) ?_
      exact ih g6_2 an_3 (j + 1) (by omega) (by omega) (by omega) h_4 (by omega) H locs (hP.sub [0, 1, 2, 3, 4, 5] rfl) (hD.sub [0, 1, 2, 3, 4, 5] (by decide) rfl) hS ls (lv_sub hl [1, 2, 3, 0] rfl)
theorem dX6_markBreaking_0 : decode cX6_markBreaking 0 = .ok (.iconst 0, 1) := by decide +kernel
theorem dX6_markBreaking_1 : decode cX6_markBreaking 1 = .ok (.istore_n 2, 1) := by decide +kernel
theorem dX6_markBreaking_2 : decode cX6_markBreaking 2 = .ok (.iconst 0, 1) := by decide +kernel
theorem dX6_markBreaking_3 : decode cX6_markBreaking 3 = .ok (.istore_n 3, 1) := by decide +kernel
theorem dX6_markBreaking_126 : decode cX6_markBreaking 126 = .ok (.iload_n 2, 1) := by decide +kernel
theorem dX6_markBreaking_127 : decode cX6_markBreaking 127 = .ok (.ireturn, 1) := by decide +kernel
set_option maxHeartbeats 4000000 in
set_option maxRecDepth 100000 in
theorem c_markBreaking (l : Launch) (D : va_G) (h0 : Nat) (q1 : Nat) (q2 : Nat) (q3 : Nat) (q4 : Nat) (q5 : Nat) (q6 : Nat) (cy1 : ClassId) (cy2 : ClassId) (cy3 : ClassId) (cy5 : ClassId) (cy6 : ClassId) (f1 : Nat → Int32) (f2 : Nat → Int32) (f3 : Nat → Int32) (f5 : Nat → Int32) (w : Nat) (h : Nat) (b : Int32) (f6 : Nat → Int32) (h3 : w ≤ 10) (h4 : h ≤ 10) : cI l yX6_markBreaking (.code yX6_markBreaking cX6_markBreaking 7 (some .boolean)) ({ frames := 1, cells := 0, slots := 0, locals := 22 }) D [(cy1, .int), (cy2, .int), (cy3, .int), (cy5, .boolean), (cy6, .boolean)] [(h0, .inr (5, [.int (nI w), .int (nI h), .ref q1, .ref q2, .ref q3, .ref q4, .ref q5, .ref q6])), (q1, .inl (cy1, 100, .inl f1)), (q2, .inl (cy2, 100, .inl f2)), (q3, .inl (cy3, 100, .inl f3)), (q5, .inl (cy5, 100, .inl f5)), (q6, .inl (cy6, 100, .inl f6))] xT [.ref h0, .int b] (S := Nat → Int32) (fun r u => match u with | g6 => r = 0 ∨ r = 1) (fun u => match u with | g6 => []) (fun u => match u with | g6 => [(h0, .inr (5, [.int (nI w), .int (nI h), .ref q1, .ref q2, .ref q3, .ref q4, .ref q5, .ref q6])), (q1, .inl (cy1, 100, .inl f1)), (q2, .inl (cy2, 100, .inl f2)), (q3, .inl (cy3, 100, .inl f3)), (q5, .inl (cy5, 100, .inl f5)), (q6, .inl (cy6, 100, .inl g6))]) := by
  intro sz
  refine Met.ofW (cc := cX6_markBreaking) (maxL := 7) (ret := (some .boolean)) (by decide) rfl ?_
  intro p e s m args below meth c s₁ B hml hv
  obtain ⟨rfl, hsz, hP, hK, hD0, hX⟩ := hv
  have hx := B.exec
  have hb := B.bytes
  have hr := B.returns
  have hts0 := atoms_spec (ws := .code yX6_markBreaking cX6_markBreaking 7 (some .boolean) :: gw) B.pre
  have hts := fun (w : Cond) (h : w ∈ gw) => hts0 w (List.mem_cons_of_mem _ h)
  have hown : s.vm.findClass RX6 = some m.cls := findClass_of_methodNamed B.named
  have hlocks := B.notSynchronized
  have F : mFix p s m _ c cX6_markBreaking 7 RX6 := ⟨hx, hb, hml, hown, hts⟩
  subst hsz
  have hD := hD0.self (sz := s.heap.size)
  generalize hAe : va_A [(h0, .inr (5, [.int (nI w), .int (nI h), .ref q1, .ref q2, .ref q3, .ref q4, .ref q5, .ref q6])), (q1, .inl (cy1, 100, .inl f1)), (q2, .inl (cy2, 100, .inl f2)), (q3, .inl (cy3, 100, .inl f3)), (q5, .inl (cy5, 100, .inl f5)), (q6, .inl (cy6, 100, .inl f6))] s.heap.size = A at hD hX ⊢
  have hA : ∀ q : Nat, s.heap.size ≤ q → A q := fun q h => by rw [← hAe]; exact Or.inr h
  have hS : va_S A s.heap s.heap [] := va_S.rf
  have hl := lv_entry ([.ref h0, .int b]) (n := 7) (Nat.le_of_ble_eq_true rfl)
  rw [lg_entry_eq]
  generalize (lg_sl ([.ref h0, .int b]) ++ List.replicate (7 - (lg_sl ([.ref h0, .int b])).length) Slot.unset).toArray = ls at hl ⊢
  have hl : lv_has ls 7 [(0, .ref h0), (1, .int b)] := hl
  have hP : va_P D vwCl [(h0, .inr (5, [.int (nI w), .int (nI h), .ref q1, .ref q2, .ref q3, .ref q4, .ref q5, .ref q6])), (q1, .inl (cy1, 100, .inl f1)), (q2, .inl (cy2, 100, .inl f2)), (q3, .inl (cy3, 100, .inl f3)), (q5, .inl (cy5, 100, .inl f5)), (q6, .inl (cy6, 100, .inl f6))] s.heap := hP
  refine lv_iconst (v := 0) hx hb dX6_markBreaking_0 (by decide) ?_
  refine lv_istore_n (lv' := [(2, .int 0), (0, .ref h0), (1, .int b)]) hx hb dX6_markBreaking_1 rfl hl (by decide) rfl (fun ls hl => ?_)
  refine lv_iconst (v := 0) hx hb dX6_markBreaking_2 (by decide) ?_
  refine lv_istore_n (lv' := [(3, .int 0), (2, .int 0), (0, .ref h0), (1, .int b)]) hx hb dX6_markBreaking_3 rfl hl (by decide) rfl (fun ls hl => ?_)
  refine lp_mark_out F hA h0 q1 q2 q3 q4 q5 q6 cy1 cy2 cy3 cy5 cy6 f1 f2 f3 f5 w h b (hK.sub [0, 1, 2, 3, 4] rfl) (fun g6_1 an_2 h_3 H locs hP hD hS ls hl => ?_) _ f6 0 0 (by omega) (by omega) (by omega) (Or.inl rfl) (Nat.lt_succ_self _) _ _ (hP.sub [0, 1, 2, 3, 4, 5] rfl) (hD.sub [0, 1, 2, 3, 4, 5] (by decide) rfl) hS ls (lv_sub hl [2, 3, 1, 0] rfl)
  have h_3 : an_2 = 0 ∨ an_2 = 1 := h_3
  refine lv_iload_n hx hb dX6_markBreaking_126 rfl (lv_at hl 0 rfl) ?_
  have hP9 := hP.sub (ws' := [(h0, .inr (5, [.int (nI w), .int (nI h), .ref q1, .ref q2, .ref q3, .ref q4, .ref q5, .ref q6])), (q1, .inl (cy1, 100, .inl f1)), (q2, .inl (cy2, 100, .inl f2)), (q3, .inl (cy3, 100, .inl f3)), (q5, .inl (cy5, 100, .inl f5)), (q6, .inl (cy6, 100, .inl g6_1))]) [0, 1, 2, 3, 4, 5] rfl
  have hD9 := hD.sub (ws' := [(h0, .inr (5, [.int (nI w), .int (nI h), .ref q1, .ref q2, .ref q3, .ref q4, .ref q5, .ref q6])), (q1, .inl (cy1, 100, .inl f1)), (q2, .inl (cy2, 100, .inl f2)), (q3, .inl (cy3, 100, .inl f3)), (q5, .inl (cy5, 100, .inl f5)), (q6, .inl (cy6, 100, .inl g6_1))]) [0, 1, 2, 3, 4, 5] (by decide) rfl
  have hK9 := hK.sub (tys' := []) [] rfl
  refine W.widen (k := 0) (n := 0) (by decide) (by decide) ?_
  exact W.zret (v := an_2) hx hb hr (by rcases h_3 with rfl | rfl <;> rfl) (fun t ht hW => ⟨⟨an_2, g6_1, rfl, h_3, by rw [ht]; exact hP9, va_K.moved hW.alike hK9, hD9⟩, hS.F ht⟩) hS.2.2 dX6_markBreaking_127
theorem dX6_crackIfMarked_0 : decode cX6_crackIfMarked 0 = .ok (.aload_n 0, 1) := by decide +kernel
theorem dX6_crackIfMarked_1 : decode cX6_crackIfMarked 1 = .ok (.iload_n 1, 1) := by decide +kernel
theorem dX6_crackIfMarked_2 : decode cX6_crackIfMarked 2 = .ok (.iload_n 2, 1) := by decide +kernel
theorem dX6_crackIfMarked_3 : decode cX6_crackIfMarked 3 = .ok (.invokevirtual 42, 3) := by decide +kernel
theorem dX6_crackIfMarked_6 : decode cX6_crackIfMarked 6 = .ok (.ifCond .eq 17, 3) := by decide +kernel
theorem dX6_crackIfMarked_9 : decode cX6_crackIfMarked 9 = .ok (.aload_n 0, 1) := by decide +kernel
theorem dX6_crackIfMarked_10 : decode cX6_crackIfMarked 10 = .ok (.getfield 28, 3) := by decide +kernel
theorem dX6_crackIfMarked_13 : decode cX6_crackIfMarked 13 = .ok (.aload_n 0, 1) := by decide +kernel
theorem dX6_crackIfMarked_14 : decode cX6_crackIfMarked 14 = .ok (.iload_n 1, 1) := by decide +kernel
theorem dX6_crackIfMarked_15 : decode cX6_crackIfMarked 15 = .ok (.iload_n 2, 1) := by decide +kernel
theorem dX6_crackIfMarked_16 : decode cX6_crackIfMarked 16 = .ok (.invokevirtual 46, 3) := by decide +kernel
theorem dX6_crackIfMarked_19 : decode cX6_crackIfMarked 19 = .ok (.baload, 1) := by decide +kernel
theorem dX6_crackIfMarked_20 : decode cX6_crackIfMarked 20 = .ok (.ifCond .ne 5, 3) := by decide +kernel
theorem dX6_crackIfMarked_25 : decode cX6_crackIfMarked 25 = .ok (.aload_n 0, 1) := by decide +kernel
theorem dX6_crackIfMarked_26 : decode cX6_crackIfMarked 26 = .ok (.getfield 24, 3) := by decide +kernel
theorem dX6_crackIfMarked_29 : decode cX6_crackIfMarked 29 = .ok (.aload_n 0, 1) := by decide +kernel
theorem dX6_crackIfMarked_30 : decode cX6_crackIfMarked 30 = .ok (.iload_n 1, 1) := by decide +kernel
theorem dX6_crackIfMarked_31 : decode cX6_crackIfMarked 31 = .ok (.iload_n 2, 1) := by decide +kernel
theorem dX6_crackIfMarked_32 : decode cX6_crackIfMarked 32 = .ok (.invokevirtual 46, 3) := by decide +kernel
theorem dX6_crackIfMarked_35 : decode cX6_crackIfMarked 35 = .ok (.iconst 1, 1) := by decide +kernel
theorem dX6_crackIfMarked_36 : decode cX6_crackIfMarked 36 = .ok (.bastore, 1) := by decide +kernel
theorem dX6_crackIfMarked_37 : decode cX6_crackIfMarked 37 = .ok (.iconst 1, 1) := by decide +kernel
theorem dX6_crackIfMarked_38 : decode cX6_crackIfMarked 38 = .ok (.ireturn, 1) := by decide +kernel
theorem dX6_crackIfMarked_23 : decode cX6_crackIfMarked 23 = .ok (.iconst 0, 1) := by decide +kernel
theorem dX6_crackIfMarked_24 : decode cX6_crackIfMarked 24 = .ok (.ireturn, 1) := by decide +kernel
set_option maxHeartbeats 4000000 in
set_option maxRecDepth 100000 in
theorem c_crackIfMarked (l : Launch) (D : va_G) (h0 : Nat) (q1 : Nat) (q2 : Nat) (q3 : Nat) (q4 : Nat) (q5 : Nat) (q6 : Nat) (cy5 : ClassId) (cy6 : ClassId) (f5 : Nat → Int32) (f6 : Nat → Int32) (w : Nat) (h : Nat) (i : Nat) (j : Nat) (h3 : w ≤ 10) (h4 : h ≤ 10) (h1 : i < w) (h2 : j < h) : cI l yX6_crackIfMarked (.code yX6_crackIfMarked cX6_crackIfMarked 3 (some .boolean)) ({ frames := 1, cells := 0, slots := 0, locals := 22 }) D [(cy5, .boolean), (cy6, .boolean)] [(h0, .inr (5, [.int (nI w), .int (nI h), .ref q1, .ref q2, .ref q3, .ref q4, .ref q5, .ref q6])), (q5, .inl (cy5, 100, .inl f5)), (q6, .inl (cy6, 100, .inl f6))] xT [.ref h0, .int (nI i), .int (nI j)] (S := Nat → Int32) (fun r u => match u with | g5 => r = 0 ∨ r = 1) (fun u => match u with | g5 => []) (fun u => match u with | g5 => [(h0, .inr (5, [.int (nI w), .int (nI h), .ref q1, .ref q2, .ref q3, .ref q4, .ref q5, .ref q6])), (q5, .inl (cy5, 100, .inl g5)), (q6, .inl (cy6, 100, .inl f6))]) := by
  intro sz
  refine Met.ofW (cc := cX6_crackIfMarked) (maxL := 3) (ret := (some .boolean)) (by decide) rfl ?_
  intro p e s m args below meth c s₁ B hml hv
  obtain ⟨rfl, hsz, hP, hK, hD0, hX⟩ := hv
  have hx := B.exec
  have hb := B.bytes
  have hr := B.returns
  have hts0 := atoms_spec (ws := .code yX6_crackIfMarked cX6_crackIfMarked 3 (some .boolean) :: gw) B.pre
  have hts := fun (w : Cond) (h : w ∈ gw) => hts0 w (List.mem_cons_of_mem _ h)
  have hown : s.vm.findClass RX6 = some m.cls := findClass_of_methodNamed B.named
  have hlocks := B.notSynchronized
  have F : mFix p s m _ c cX6_crackIfMarked 3 RX6 := ⟨hx, hb, hml, hown, hts⟩
  subst hsz
  have hD := hD0.self (sz := s.heap.size)
  generalize hAe : va_A [(h0, .inr (5, [.int (nI w), .int (nI h), .ref q1, .ref q2, .ref q3, .ref q4, .ref q5, .ref q6])), (q5, .inl (cy5, 100, .inl f5)), (q6, .inl (cy6, 100, .inl f6))] s.heap.size = A at hD hX ⊢
  have hA : ∀ q : Nat, s.heap.size ≤ q → A q := fun q h => by rw [← hAe]; exact Or.inr h
  have hS : va_S A s.heap s.heap [] := va_S.rf
  have hl := lv_entry ([.ref h0, .int (nI i), .int (nI j)]) (n := 3) (Nat.le_of_ble_eq_true rfl)
  rw [lg_entry_eq]
  generalize (lg_sl ([.ref h0, .int (nI i), .int (nI j)]) ++ List.replicate (3 - (lg_sl ([.ref h0, .int (nI i), .int (nI j)])).length) Slot.unset).toArray = ls at hl ⊢
  have hl : lv_has ls 3 [(0, .ref h0), (1, .int (nI i)), (2, .int (nI j))] := hl
  have hP : va_P D vwCl [(h0, .inr (5, [.int (nI w), .int (nI h), .ref q1, .ref q2, .ref q3, .ref q4, .ref q5, .ref q6])), (q5, .inl (cy5, 100, .inl f5)), (q6, .inl (cy6, 100, .inl f6))] s.heap := hP
  refine lv_aload_n hx hb dX6_crackIfMarked_0 rfl (lv_at hl 0 rfl) ?_
  refine lv_iload_n hx hb dX6_crackIfMarked_1 rfl (lv_at hl 1 rfl) ?_
  refine lv_iload_n hx hb dX6_crackIfMarked_2 rfl (lv_at hl 2 rfl) ?_
  refine mc_Vi (rest := []) (wr := [(q5, .inl (cy5, 100, .inl f5)), (q6, .inl (cy6, 100, .inl f6))]) F hK hP hD hS hA (c_has_in l D h0 q1 q2 q3 q4 q5 q6 w h i j (by omega) (by omega) (by omega) (by omega)) ⟨gk_X6_42.1, gk_X6_42.2, Nat.le_of_ble_eq_true rfl, Nat.le_of_ble_eq_true rfl⟩ [0] [1, 2] [] ⟨rfl, rfl, rfl, rfl, by decide⟩ rfl xT_move (fun _ _ _ => trivial) 0 rfl rfl rfl hl.1 rfl (Nat.le_of_ble_eq_true rfl) dX6_crackIfMarked_3 ⟨Nat.le_of_ble_eq_true rfl, Nat.le_of_ble_eq_true rfl⟩ (fun r_1 _ H locs hw hK1 hP hD hS => ?_)
  have hP : va_P D vwCl [(q5, .inl (cy5, 100, .inl f5)), (q6, .inl (cy6, 100, .inl f6)), (h0, .inr (5, [.int (nI w), .int (nI h), .ref q1, .ref q2, .ref q3, .ref q4, .ref q5, .ref q6]))] H := hP
  have hD : va_D A [(q5, .inl (cy5, 100, .inl f5)), (q6, .inl (cy6, 100, .inl f6)), (h0, .inr (5, [.int (nI w), .int (nI h), .ref q1, .ref q2, .ref q3, .ref q4, .ref q5, .ref q6]))] := hD
  have hw_2 : r_1 = 1 := hw
  obtain rfl : r_1 = 1 := hw_2
  refine lv_if_eq (tgt := 23) hx hb dX6_crackIfMarked_6 (by decide) (fun c_3 => absurd c_3 (by decide)) (fun c_3 => ?_)
  refine lv_aload_n hx hb dX6_crackIfMarked_9 rfl (lv_at hl 0 rfl) ?_
  refine va_get (D := D) (ci := 5) (v := .ref q6) (C := RX6) (T := TX6) (N := 8) hx hb hts inG_X6 hown hK hP 2 rfl rfl 7 (by decide) (hts _ kw_1_159) (fun _ h9 => h9) rfl dX6_crackIfMarked_10 ?_
  refine lv_aload_n hx hb dX6_crackIfMarked_13 rfl (lv_at hl 0 rfl) ?_
  refine lv_iload_n hx hb dX6_crackIfMarked_14 rfl (lv_at hl 1 rfl) ?_
  refine lv_iload_n hx hb dX6_crackIfMarked_15 rfl (lv_at hl 2 rfl) ?_
  refine mc_Vi (rest := [.ref q6]) (wr := [(q5, .inl (cy5, 100, .inl f5)), (q6, .inl (cy6, 100, .inl f6))]) F hK hP hD hS hA (c_spotOf l D h0 q1 q2 q3 q4 q5 q6 w h i j ) ⟨gk_X6_46.1, gk_X6_46.2, Nat.le_of_ble_eq_true rfl, Nat.le_of_ble_eq_true rfl⟩ [2] [0, 1] [] ⟨rfl, rfl, rfl, rfl, by decide⟩ rfl xT_move (fun _ _ _ => trivial) 2 rfl rfl rfl hl.1 rfl (Nat.le_of_ble_eq_true rfl) dX6_crackIfMarked_16 ⟨Nat.le_of_ble_eq_true rfl, Nat.le_of_ble_eq_true rfl⟩ (fun r_4 _ H locs hw hK1 hP hD hS => ?_)
  have hP : va_P D vwCl [(q5, .inl (cy5, 100, .inl f5)), (q6, .inl (cy6, 100, .inl f6)), (h0, .inr (5, [.int (nI w), .int (nI h), .ref q1, .ref q2, .ref q3, .ref q4, .ref q5, .ref q6]))] H := hP
  have hD : va_D A [(q5, .inl (cy5, 100, .inl f5)), (q6, .inl (cy6, 100, .inl f6)), (h0, .inr (5, [.int (nI w), .int (nI h), .ref q1, .ref q2, .ref q3, .ref q4, .ref q5, .ref q6]))] := hD
  have hw_5 : r_4 = nI (j * 10 + i) := hw
  obtain rfl : r_4 = nI (j * 10 + i) := hw_5
  refine m_zald hx hb hK hP 1 1 rfl rfl (j * 10 + i) rfl (by omega) (by decide) dX6_crackIfMarked_19 ?_
  refine lv_topi (fun v_6 ev_6 => ?_)
  refine lv_if_ne (tgt := 25) hx hb dX6_crackIfMarked_20 (by decide) (fun c_7 => ?_) (fun c_7 => ?_)
  · skip
    refine lv_aload_n hx hb dX6_crackIfMarked_25 rfl (lv_at hl 0 rfl) ?_
    refine va_get (D := D) (ci := 5) (v := .ref q5) (C := RX6) (T := TX6) (N := 8) hx hb hts inG_X6 hown hK hP 2 rfl rfl 6 (by decide) (hts _ kw_1_157) (fun _ h9 => h9) rfl dX6_crackIfMarked_26 ?_
    refine lv_aload_n hx hb dX6_crackIfMarked_29 rfl (lv_at hl 0 rfl) ?_
    refine lv_iload_n hx hb dX6_crackIfMarked_30 rfl (lv_at hl 1 rfl) ?_
    refine lv_iload_n hx hb dX6_crackIfMarked_31 rfl (lv_at hl 2 rfl) ?_
    refine mc_Vi (rest := [.ref q5]) (wr := [(q5, .inl (cy5, 100, .inl f5)), (q6, .inl (cy6, 100, .inl f6))]) F hK hP hD hS hA (c_spotOf l D h0 q1 q2 q3 q4 q5 q6 w h i j ) ⟨gk_X6_46.1, gk_X6_46.2, Nat.le_of_ble_eq_true rfl, Nat.le_of_ble_eq_true rfl⟩ [2] [0, 1] [] ⟨rfl, rfl, rfl, rfl, by decide⟩ rfl xT_move (fun _ _ _ => trivial) 2 rfl rfl rfl hl.1 rfl (Nat.le_of_ble_eq_true rfl) dX6_crackIfMarked_32 ⟨Nat.le_of_ble_eq_true rfl, Nat.le_of_ble_eq_true rfl⟩ (fun r_8 _ H locs hw hK1 hP hD hS => ?_)
    have hP : va_P D vwCl [(q5, .inl (cy5, 100, .inl f5)), (q6, .inl (cy6, 100, .inl f6)), (h0, .inr (5, [.int (nI w), .int (nI h), .ref q1, .ref q2, .ref q3, .ref q4, .ref q5, .ref q6]))] H := hP
    have hD : va_D A [(q5, .inl (cy5, 100, .inl f5)), (q6, .inl (cy6, 100, .inl f6)), (h0, .inr (5, [.int (nI w), .int (nI h), .ref q1, .ref q2, .ref q3, .ref q4, .ref q5, .ref q6]))] := hD
    have hw_9 : r_8 = nI (j * 10 + i) := hw
    obtain rfl : r_8 = nI (j * 10 + i) := hw_9
    refine lv_iconst (v := 1) hx hb dX6_crackIfMarked_35 (by decide) ?_
    refine m_zast hx hb hK hP hD hS 0 0 rfl rfl (j * 10 + i) rfl (by omega) (by decide) dX6_crackIfMarked_36 (fun g_10 H locs eg_10 hP hD hS => ?_)
    have hP : va_P D vwCl [(q5, .inl (cy5, 100, .inl g_10)), (q6, .inl (cy6, 100, .inl f6)), (h0, .inr (5, [.int (nI w), .int (nI h), .ref q1, .ref q2, .ref q3, .ref q4, .ref q5, .ref q6]))] H := hP
    have hD : va_D A [(q5, .inl (cy5, 100, .inl g_10)), (q6, .inl (cy6, 100, .inl f6)), (h0, .inr (5, [.int (nI w), .int (nI h), .ref q1, .ref q2, .ref q3, .ref q4, .ref q5, .ref q6]))] := hD
    refine lv_iconst (v := 1) hx hb dX6_crackIfMarked_37 (by decide) ?_
    have hP9 := hP.sub (ws' := [(h0, .inr (5, [.int (nI w), .int (nI h), .ref q1, .ref q2, .ref q3, .ref q4, .ref q5, .ref q6])), (q5, .inl (cy5, 100, .inl g_10)), (q6, .inl (cy6, 100, .inl f6))]) [2, 0, 1] rfl
    have hD9 := hD.sub (ws' := [(h0, .inr (5, [.int (nI w), .int (nI h), .ref q1, .ref q2, .ref q3, .ref q4, .ref q5, .ref q6])), (q5, .inl (cy5, 100, .inl g_10)), (q6, .inl (cy6, 100, .inl f6))]) [2, 0, 1] (by decide) rfl
    have hK9 := hK.sub (tys' := []) [] rfl
    refine W.widen (k := 0) (n := 0) (by decide) (by decide) ?_
    exact W.zret (v := 1) hx hb hr rfl (fun t ht hW => ⟨⟨1, g_10, rfl, Or.inr rfl, by rw [ht]; exact hP9, va_K.moved hW.alike hK9, hD9⟩, hS.F ht⟩) hS.2.2 dX6_crackIfMarked_38
  · skip
    refine lv_iconst (v := 0) hx hb dX6_crackIfMarked_23 (by decide) ?_
    have hP9 := hP.sub (ws' := [(h0, .inr (5, [.int (nI w), .int (nI h), .ref q1, .ref q2, .ref q3, .ref q4, .ref q5, .ref q6])), (q5, .inl (cy5, 100, .inl f5)), (q6, .inl (cy6, 100, .inl f6))]) [2, 0, 1] rfl
    have hD9 := hD.sub (ws' := [(h0, .inr (5, [.int (nI w), .int (nI h), .ref q1, .ref q2, .ref q3, .ref q4, .ref q5, .ref q6])), (q5, .inl (cy5, 100, .inl f5)), (q6, .inl (cy6, 100, .inl f6))]) [2, 0, 1] (by decide) rfl
    have hK9 := hK.sub (tys' := []) [] rfl
    refine W.widen (k := 0) (n := 0) (by decide) (by decide) ?_
    exact W.zret (v := 0) hx hb hr rfl (fun t ht hW => ⟨⟨0, f5, rfl, Or.inl rfl, by rw [ht]; exact hP9, va_K.moved hW.alike hK9, hD9⟩, hS.F ht⟩) hS.2.2 dX6_crackIfMarked_24
theorem dX3_fireAt_0 : decode cX3_fireAt 0 = .ok (.aload_n 0, 1) := by decide +kernel
theorem dX3_fireAt_1 : decode cX3_fireAt 1 = .ok (.aload_n 0, 1) := by decide +kernel
theorem dX3_fireAt_2 : decode cX3_fireAt 2 = .ok (.getfield 21, 3) := by decide +kernel
theorem dX3_fireAt_5 : decode cX3_fireAt 5 = .ok (.iload_n 1, 1) := by decide +kernel
theorem dX3_fireAt_6 : decode cX3_fireAt 6 = .ok (.iload_n 2, 1) := by decide +kernel
theorem kw_3_146 : Cond.methodLink RX3 169 yX6_guestAt ∈ gw := gw_t3 (List.mem_of_getElem? (i := 146) (by decide +kernel)) (by decide +kernel)
theorem kw_3_147 : Cond.instanceMethod yX6_guestAt ∈ gw := gw_t3 (List.mem_of_getElem? (i := 147) (by decide +kernel)) (by decide +kernel)
theorem kw_3_148 : Cond.selects RX6 yX6_guestAt yX6_guestAt ∈ gw := gw_t3 (List.mem_of_getElem? (i := 148) (by decide +kernel)) (by decide +kernel)
theorem kw_3_149 : Cond.code yX6_guestAt cX6_guestAt 3 (some .int) ∈ gw := gw_t3 (List.mem_of_getElem? (i := 149) (by decide +kernel)) (by decide +kernel)
theorem gk_X3_169 : GoodIn gw (wsV RX3 169 RX6 yX6_guestAt (.code yX6_guestAt cX6_guestAt 3 (some .int) :: gw)) ∧ (yX6_guestAt.cls = RX6 ∧ yX6_guestAt.cls ≠ "java/lang/invoke/MethodHandle" ∧ yX6_guestAt.cls ≠ "java/lang/invoke/VarHandle" ∧ (parseMethodDescriptor yX6_guestAt.desc).map (fun d => d.parameters.length) = some 2) := ⟨gi_V kw_3_146 kw_3_147 kw_3_148 kw_1_7 kw_3_149, by decide +kernel⟩
theorem dX3_fireAt_7 : decode cX3_fireAt 7 = .ok (.invokevirtual 169, 3) := by decide +kernel
theorem kw_3_150 : Cond.methodLink RX3 172 yX3_boothNumbered ∈ gw := gw_t3 (List.mem_of_getElem? (i := 150) (by decide +kernel)) (by decide +kernel)
theorem gk_X3_172 : GoodIn gw (wsV RX3 172 RX3 yX3_boothNumbered (.code yX3_boothNumbered cX3_boothNumbered 2 (some (.object "IceFair$Booth")) :: gw)) ∧ (yX3_boothNumbered.cls = RX3 ∧ yX3_boothNumbered.cls ≠ "java/lang/invoke/MethodHandle" ∧ yX3_boothNumbered.cls ≠ "java/lang/invoke/VarHandle" ∧ (parseMethodDescriptor yX3_boothNumbered.desc).map (fun d => d.parameters.length) = some 1) := ⟨gi_V kw_3_150 kw_3_32 kw_3_33 kw_1_6 kw_3_34, by decide +kernel⟩
theorem dX3_fireAt_10 : decode cX3_fireAt 10 = .ok (.invokevirtual 172, 3) := by decide +kernel
theorem dX3_fireAt_13 : decode cX3_fireAt 13 = .ok (.astore_n 3, 1) := by decide +kernel
theorem dX3_fireAt_14 : decode cX3_fireAt 14 = .ok (.aload_n 3, 1) := by decide +kernel
theorem dX3_fireAt_15 : decode cX3_fireAt 15 = .ok (.ifnull 14, 3) := by decide +kernel
theorem dX3_fireAt_29 : decode cX3_fireAt 29 = .ok (.iconst 0, 1) := by decide +kernel
theorem dX3_fireAt_30 : decode cX3_fireAt 30 = .ok (.ireturn, 1) := by decide +kernel
set_option maxHeartbeats 4000000 in
set_option maxRecDepth 100000 in
theorem c_fireAt0 (l : Launch) (D : va_G) (h0 : Nat) (cu : Nat) (rv : Nat) (bt : Nat) (q1 : Nat) (q2 : Nat) (q3 : Nat) (q4 : Nat) (q5 : Nat) (q6 : Nat) (cy4 : ClassId) (f4 : Nat → Int32) (w : Nat) (h : Nat) (x : Int32) (y : Int32) (ho : Int32) (fe : Int32) (h3 : w ≤ 10) (h4 : h ≤ 10) : cI l yX3_fireAt (.code yX3_fireAt cX3_fireAt 4 (some .int)) ({ frames := 2, cells := 0, slots := 0, locals := 44 }) D [(cy4, .int)] [(h0, .inr (3, [.ref cu, .ref rv, .ref bt, .int 0, .int ho, .int fe])), (rv, .inr (5, [.int (nI w), .int (nI h), .ref q1, .ref q2, .ref q3, .ref q4, .ref q5, .ref q6])), (q4, .inl (cy4, 100, .inl f4))] xT [.ref h0, .int x, .int y] (S := Unit) (fun r _ => r = 0) (fun _ => []) (fun _ => [(h0, .inr (3, [.ref cu, .ref rv, .ref bt, .int 0, .int ho, .int fe])), (rv, .inr (5, [.int (nI w), .int (nI h), .ref q1, .ref q2, .ref q3, .ref q4, .ref q5, .ref q6])), (q4, .inl (cy4, 100, .inl f4))]) := by
  intro sz
  refine Met.ofW (cc := cX3_fireAt) (maxL := 4) (ret := (some .int)) (by decide) rfl ?_
  intro p e s m args below meth c s₁ B hml hv
  obtain ⟨rfl, hsz, hP, hK, hD0, hX⟩ := hv
  have hx := B.exec
  have hb := B.bytes
  have hr := B.returns
  have hts0 := atoms_spec (ws := .code yX3_fireAt cX3_fireAt 4 (some .int) :: gw) B.pre
  have hts := fun (w : Cond) (h : w ∈ gw) => hts0 w (List.mem_cons_of_mem _ h)
  have hown : s.vm.findClass RX3 = some m.cls := findClass_of_methodNamed B.named
  have hlocks := B.notSynchronized
  have F : mFix p s m _ c cX3_fireAt 4 RX3 := ⟨hx, hb, hml, hown, hts⟩
  subst hsz
  have hD := hD0.self (sz := s.heap.size)
  generalize hAe : va_A [(h0, .inr (3, [.ref cu, .ref rv, .ref bt, .int 0, .int ho, .int fe])), (rv, .inr (5, [.int (nI w), .int (nI h), .ref q1, .ref q2, .ref q3, .ref q4, .ref q5, .ref q6])), (q4, .inl (cy4, 100, .inl f4))] s.heap.size = A at hD hX ⊢
  have hA : ∀ q : Nat, s.heap.size ≤ q → A q := fun q h => by rw [← hAe]; exact Or.inr h
  have hS : va_S A s.heap s.heap [] := va_S.rf
  have hl := lv_entry ([.ref h0, .int x, .int y]) (n := 4) (Nat.le_of_ble_eq_true rfl)
  rw [lg_entry_eq]
  generalize (lg_sl ([.ref h0, .int x, .int y]) ++ List.replicate (4 - (lg_sl ([.ref h0, .int x, .int y])).length) Slot.unset).toArray = ls at hl ⊢
  have hl : lv_has ls 4 [(0, .ref h0), (1, .int x), (2, .int y)] := hl
  have hP : va_P D vwCl [(h0, .inr (3, [.ref cu, .ref rv, .ref bt, .int 0, .int ho, .int fe])), (rv, .inr (5, [.int (nI w), .int (nI h), .ref q1, .ref q2, .ref q3, .ref q4, .ref q5, .ref q6])), (q4, .inl (cy4, 100, .inl f4))] s.heap := hP
  refine lv_aload_n hx hb dX3_fireAt_0 rfl (lv_at hl 0 rfl) ?_
  refine lv_aload_n hx hb dX3_fireAt_1 rfl (lv_at hl 0 rfl) ?_
  refine va_get (D := D) (ci := 3) (v := .ref rv) (C := RX3) (T := TX3) (N := 6) hx hb hts inG_X3 hown hK hP 0 rfl rfl 1 (by decide) (hts _ kw_1_219) (fun _ h9 => h9) rfl dX3_fireAt_2 ?_
  refine lv_iload_n hx hb dX3_fireAt_5 rfl (lv_at hl 1 rfl) ?_
  refine lv_iload_n hx hb dX3_fireAt_6 rfl (lv_at hl 2 rfl) ?_
  refine mc_Vi (rest := [.ref h0]) (wr := [(h0, .inr (3, [.ref cu, .ref rv, .ref bt, .int 0, .int ho, .int fe]))]) F hK hP hD hS hA (c_guestAt l D rv q1 q2 q3 q4 q5 q6 cy4 f4 w h x y (by omega) (by omega)) ⟨gk_X3_169.1, gk_X3_169.2, Nat.le_of_ble_eq_true rfl, Nat.le_of_ble_eq_true rfl⟩ [1, 2] [0] [0] ⟨rfl, rfl, rfl, rfl, by decide⟩ rfl xT_move (fun _ _ _ => trivial) 1 rfl rfl rfl hl.1 rfl (Nat.le_of_ble_eq_true rfl) dX3_fireAt_7 ⟨Nat.le_of_ble_eq_true rfl, Nat.le_of_ble_eq_true rfl⟩ (fun r_1 _ H locs hw hK1 hP hD hS => ?_)
  have hP : va_P D vwCl [(h0, .inr (3, [.ref cu, .ref rv, .ref bt, .int 0, .int ho, .int fe])), (rv, .inr (5, [.int (nI w), .int (nI h), .ref q1, .ref q2, .ref q3, .ref q4, .ref q5, .ref q6])), (q4, .inl (cy4, 100, .inl f4))] H := hP
  have hD : va_D A [(h0, .inr (3, [.ref cu, .ref rv, .ref bt, .int 0, .int ho, .int fe])), (rv, .inr (5, [.int (nI w), .int (nI h), .ref q1, .ref q2, .ref q3, .ref q4, .ref q5, .ref q6])), (q4, .inl (cy4, 100, .inl f4))] := hD
  have hw_2 : r_1 = r_1 := hw
  refine mc_Vq (rest := []) (wr := [(rv, .inr (5, [.int (nI w), .int (nI h), .ref q1, .ref q2, .ref q3, .ref q4, .ref q5, .ref q6])), (q4, .inl (cy4, 100, .inl f4))]) F hK hP hD hS hA (c_boothNone l D h0 cu rv bt ho fe r_1 ) ⟨gk_X3_172.1, gk_X3_172.2, Nat.le_of_ble_eq_true rfl, Nat.le_of_ble_eq_true rfl⟩ [0] [1, 2] [] ⟨rfl, rfl, rfl, rfl, by decide⟩ rfl xT_move (fun _ _ _ => trivial) 0 rfl rfl rfl hl.1 rfl (Nat.le_of_ble_eq_true rfl) dX3_fireAt_10 ⟨Nat.le_of_ble_eq_true rfl, Nat.le_of_ble_eq_true rfl⟩ (fun r_3 _ H locs hw hK1 hP hD hS => ?_)
  have hP : va_P D vwCl [(rv, .inr (5, [.int (nI w), .int (nI h), .ref q1, .ref q2, .ref q3, .ref q4, .ref q5, .ref q6])), (q4, .inl (cy4, 100, .inl f4)), (h0, .inr (3, [.ref cu, .ref rv, .ref bt, .int 0, .int ho, .int fe]))] H := hP
  have hD : va_D A [(rv, .inr (5, [.int (nI w), .int (nI h), .ref q1, .ref q2, .ref q3, .ref q4, .ref q5, .ref q6])), (q4, .inl (cy4, 100, .inl f4)), (h0, .inr (3, [.ref cu, .ref rv, .ref bt, .int 0, .int ho, .int fe]))] := hD
  have hw_4 : r_3 = none := hw
  obtain rfl : r_3 = none := hw_4
  refine W.eq (g2 := F0 m 13 ls [.null]) rfl ?_
  refine lv_astore_nN (lv' := [(3, .null), (0, .ref h0), (1, .int x), (2, .int y)]) hx hb dX3_fireAt_13 rfl hl (by decide) rfl (fun ls hl => ?_)
  refine lv_aload_nN hx hb dX3_fireAt_14 rfl (lv_at hl 0 rfl) ?_
  refine lv_ifnullN (tgt := 29) hx hb dX3_fireAt_15 (by decide) ?_
  refine lv_iconst (v := 0) hx hb dX3_fireAt_29 (by decide) ?_
  have hP9 := hP.sub (ws' := [(h0, .inr (3, [.ref cu, .ref rv, .ref bt, .int 0, .int ho, .int fe])), (rv, .inr (5, [.int (nI w), .int (nI h), .ref q1, .ref q2, .ref q3, .ref q4, .ref q5, .ref q6])), (q4, .inl (cy4, 100, .inl f4))]) [2, 0, 1] rfl
  have hD9 := hD.sub (ws' := [(h0, .inr (3, [.ref cu, .ref rv, .ref bt, .int 0, .int ho, .int fe])), (rv, .inr (5, [.int (nI w), .int (nI h), .ref q1, .ref q2, .ref q3, .ref q4, .ref q5, .ref q6])), (q4, .inl (cy4, 100, .inl f4))]) [2, 0, 1] (by decide) rfl
  have hK9 := hK.sub (tys' := []) [] rfl
  refine W.widen (k := 0) (n := 0) (by decide) (by decide) ?_
  exact W.iret (v := 0) hx hb hr (fun t ht hW => ⟨⟨0, (), rfl, rfl, by rw [ht]; exact hP9, va_K.moved hW.alike hK9, hD9⟩, hS.F ht⟩) hS.2.2 dX3_fireAt_30
theorem dX3_sinkAt_0 : decode cX3_sinkAt 0 = .ok (.aload_n 0, 1) := by decide +kernel
theorem dX3_sinkAt_1 : decode cX3_sinkAt 1 = .ok (.aload_n 0, 1) := by decide +kernel
theorem dX3_sinkAt_2 : decode cX3_sinkAt 2 = .ok (.getfield 21, 3) := by decide +kernel
theorem dX3_sinkAt_5 : decode cX3_sinkAt 5 = .ok (.iload_n 1, 1) := by decide +kernel
theorem dX3_sinkAt_6 : decode cX3_sinkAt 6 = .ok (.iload_n 2, 1) := by decide +kernel
theorem dX3_sinkAt_7 : decode cX3_sinkAt 7 = .ok (.invokevirtual 169, 3) := by decide +kernel
theorem dX3_sinkAt_10 : decode cX3_sinkAt 10 = .ok (.invokevirtual 172, 3) := by decide +kernel
theorem dX3_sinkAt_13 : decode cX3_sinkAt 13 = .ok (.astore_n 3, 1) := by decide +kernel
theorem dX3_sinkAt_14 : decode cX3_sinkAt 14 = .ok (.aload_n 3, 1) := by decide +kernel
theorem dX3_sinkAt_15 : decode cX3_sinkAt 15 = .ok (.ifnonnull 5, 3) := by decide +kernel
theorem dX3_sinkAt_18 : decode cX3_sinkAt 18 = .ok (.iconst 0, 1) := by decide +kernel
theorem dX3_sinkAt_19 : decode cX3_sinkAt 19 = .ok (.ireturn, 1) := by decide +kernel
set_option maxHeartbeats 4000000 in
set_option maxRecDepth 100000 in
theorem c_sinkAt0 (l : Launch) (D : va_G) (h0 : Nat) (cu : Nat) (rv : Nat) (bt : Nat) (q1 : Nat) (q2 : Nat) (q3 : Nat) (q4 : Nat) (q5 : Nat) (q6 : Nat) (cy4 : ClassId) (f4 : Nat → Int32) (w : Nat) (h : Nat) (x : Int32) (y : Int32) (ho : Int32) (fe : Int32) (h3 : w ≤ 10) (h4 : h ≤ 10) : cI l yX3_sinkAt (.code yX3_sinkAt cX3_sinkAt 4 (some .int)) ({ frames := 3, cells := 0, slots := 0, locals := 69 }) D [(cy4, .int)] [(h0, .inr (3, [.ref cu, .ref rv, .ref bt, .int 0, .int ho, .int fe])), (rv, .inr (5, [.int (nI w), .int (nI h), .ref q1, .ref q2, .ref q3, .ref q4, .ref q5, .ref q6])), (q4, .inl (cy4, 100, .inl f4))] xT [.ref h0, .int x, .int y] (S := Unit) (fun r _ => r = 0) (fun _ => []) (fun _ => [(h0, .inr (3, [.ref cu, .ref rv, .ref bt, .int 0, .int ho, .int fe])), (rv, .inr (5, [.int (nI w), .int (nI h), .ref q1, .ref q2, .ref q3, .ref q4, .ref q5, .ref q6])), (q4, .inl (cy4, 100, .inl f4))]) := by
  intro sz
  refine Met.ofW (cc := cX3_sinkAt) (maxL := 4) (ret := (some .int)) (by decide) rfl ?_
  intro p e s m args below meth c s₁ B hml hv
  obtain ⟨rfl, hsz, hP, hK, hD0, hX⟩ := hv
  have hx := B.exec
  have hb := B.bytes
  have hr := B.returns
  have hts0 := atoms_spec (ws := .code yX3_sinkAt cX3_sinkAt 4 (some .int) :: gw) B.pre
  have hts := fun (w : Cond) (h : w ∈ gw) => hts0 w (List.mem_cons_of_mem _ h)
  have hown : s.vm.findClass RX3 = some m.cls := findClass_of_methodNamed B.named
  have hlocks := B.notSynchronized
  have F : mFix p s m _ c cX3_sinkAt 4 RX3 := ⟨hx, hb, hml, hown, hts⟩
  subst hsz
  have hD := hD0.self (sz := s.heap.size)
  generalize hAe : va_A [(h0, .inr (3, [.ref cu, .ref rv, .ref bt, .int 0, .int ho, .int fe])), (rv, .inr (5, [.int (nI w), .int (nI h), .ref q1, .ref q2, .ref q3, .ref q4, .ref q5, .ref q6])), (q4, .inl (cy4, 100, .inl f4))] s.heap.size = A at hD hX ⊢
  have hA : ∀ q : Nat, s.heap.size ≤ q → A q := fun q h => by rw [← hAe]; exact Or.inr h
  have hS : va_S A s.heap s.heap [] := va_S.rf
  have hl := lv_entry ([.ref h0, .int x, .int y]) (n := 4) (Nat.le_of_ble_eq_true rfl)
  rw [lg_entry_eq]
  generalize (lg_sl ([.ref h0, .int x, .int y]) ++ List.replicate (4 - (lg_sl ([.ref h0, .int x, .int y])).length) Slot.unset).toArray = ls at hl ⊢
  have hl : lv_has ls 4 [(0, .ref h0), (1, .int x), (2, .int y)] := hl
  have hP : va_P D vwCl [(h0, .inr (3, [.ref cu, .ref rv, .ref bt, .int 0, .int ho, .int fe])), (rv, .inr (5, [.int (nI w), .int (nI h), .ref q1, .ref q2, .ref q3, .ref q4, .ref q5, .ref q6])), (q4, .inl (cy4, 100, .inl f4))] s.heap := hP
  refine lv_aload_n hx hb dX3_sinkAt_0 rfl (lv_at hl 0 rfl) ?_
  refine lv_aload_n hx hb dX3_sinkAt_1 rfl (lv_at hl 0 rfl) ?_
  refine va_get (D := D) (ci := 3) (v := .ref rv) (C := RX3) (T := TX3) (N := 6) hx hb hts inG_X3 hown hK hP 0 rfl rfl 1 (by decide) (hts _ kw_1_219) (fun _ h9 => h9) rfl dX3_sinkAt_2 ?_
  refine lv_iload_n hx hb dX3_sinkAt_5 rfl (lv_at hl 1 rfl) ?_
  refine lv_iload_n hx hb dX3_sinkAt_6 rfl (lv_at hl 2 rfl) ?_
  refine mc_Vi (rest := [.ref h0]) (wr := [(h0, .inr (3, [.ref cu, .ref rv, .ref bt, .int 0, .int ho, .int fe]))]) F hK hP hD hS hA (c_guestAt l D rv q1 q2 q3 q4 q5 q6 cy4 f4 w h x y (by omega) (by omega)) ⟨gk_X3_169.1, gk_X3_169.2, Nat.le_of_ble_eq_true rfl, Nat.le_of_ble_eq_true rfl⟩ [1, 2] [0] [0] ⟨rfl, rfl, rfl, rfl, by decide⟩ rfl xT_move (fun _ _ _ => trivial) 1 rfl rfl rfl hl.1 rfl (Nat.le_of_ble_eq_true rfl) dX3_sinkAt_7 ⟨Nat.le_of_ble_eq_true rfl, Nat.le_of_ble_eq_true rfl⟩ (fun r_1 _ H locs hw hK1 hP hD hS => ?_)
  have hP : va_P D vwCl [(h0, .inr (3, [.ref cu, .ref rv, .ref bt, .int 0, .int ho, .int fe])), (rv, .inr (5, [.int (nI w), .int (nI h), .ref q1, .ref q2, .ref q3, .ref q4, .ref q5, .ref q6])), (q4, .inl (cy4, 100, .inl f4))] H := hP
  have hD : va_D A [(h0, .inr (3, [.ref cu, .ref rv, .ref bt, .int 0, .int ho, .int fe])), (rv, .inr (5, [.int (nI w), .int (nI h), .ref q1, .ref q2, .ref q3, .ref q4, .ref q5, .ref q6])), (q4, .inl (cy4, 100, .inl f4))] := hD
  have hw_2 : r_1 = r_1 := hw
  refine mc_Vq (rest := []) (wr := [(rv, .inr (5, [.int (nI w), .int (nI h), .ref q1, .ref q2, .ref q3, .ref q4, .ref q5, .ref q6])), (q4, .inl (cy4, 100, .inl f4))]) F hK hP hD hS hA (c_boothNone l D h0 cu rv bt ho fe r_1 ) ⟨gk_X3_172.1, gk_X3_172.2, Nat.le_of_ble_eq_true rfl, Nat.le_of_ble_eq_true rfl⟩ [0] [1, 2] [] ⟨rfl, rfl, rfl, rfl, by decide⟩ rfl xT_move (fun _ _ _ => trivial) 0 rfl rfl rfl hl.1 rfl (Nat.le_of_ble_eq_true rfl) dX3_sinkAt_10 ⟨Nat.le_of_ble_eq_true rfl, Nat.le_of_ble_eq_true rfl⟩ (fun r_3 _ H locs hw hK1 hP hD hS => ?_)
  have hP : va_P D vwCl [(rv, .inr (5, [.int (nI w), .int (nI h), .ref q1, .ref q2, .ref q3, .ref q4, .ref q5, .ref q6])), (q4, .inl (cy4, 100, .inl f4)), (h0, .inr (3, [.ref cu, .ref rv, .ref bt, .int 0, .int ho, .int fe]))] H := hP
  have hD : va_D A [(rv, .inr (5, [.int (nI w), .int (nI h), .ref q1, .ref q2, .ref q3, .ref q4, .ref q5, .ref q6])), (q4, .inl (cy4, 100, .inl f4)), (h0, .inr (3, [.ref cu, .ref rv, .ref bt, .int 0, .int ho, .int fe]))] := hD
  have hw_4 : r_3 = none := hw
  obtain rfl : r_3 = none := hw_4
  refine W.eq (g2 := F0 m 13 ls [.null]) rfl ?_
  refine lv_astore_nN (lv' := [(3, .null), (0, .ref h0), (1, .int x), (2, .int y)]) hx hb dX3_sinkAt_13 rfl hl (by decide) rfl (fun ls hl => ?_)
  refine lv_aload_nN hx hb dX3_sinkAt_14 rfl (lv_at hl 0 rfl) ?_
  refine lv_ifnonnullN hx hb dX3_sinkAt_15 ?_
  refine lv_iconst (v := 0) hx hb dX3_sinkAt_18 (by decide) ?_
  have hP9 := hP.sub (ws' := [(h0, .inr (3, [.ref cu, .ref rv, .ref bt, .int 0, .int ho, .int fe])), (rv, .inr (5, [.int (nI w), .int (nI h), .ref q1, .ref q2, .ref q3, .ref q4, .ref q5, .ref q6])), (q4, .inl (cy4, 100, .inl f4))]) [2, 0, 1] rfl
  have hD9 := hD.sub (ws' := [(h0, .inr (3, [.ref cu, .ref rv, .ref bt, .int 0, .int ho, .int fe])), (rv, .inr (5, [.int (nI w), .int (nI h), .ref q1, .ref q2, .ref q3, .ref q4, .ref q5, .ref q6])), (q4, .inl (cy4, 100, .inl f4))]) [2, 0, 1] (by decide) rfl
  have hK9 := hK.sub (tys' := []) [] rfl
  refine W.widen (k := 0) (n := 0) (by decide) (by decide) ?_
  exact W.iret (v := 0) hx hb hr (fun t ht hW => ⟨⟨0, (), rfl, rfl, by rw [ht]; exact hP9, va_K.moved hW.alike hK9, hD9⟩, hS.F ht⟩) hS.2.2 dX3_sinkAt_19
theorem dX3_meltAt_0 : decode cX3_meltAt 0 = .ok (.aload_n 0, 1) := by decide +kernel
theorem dX3_meltAt_1 : decode cX3_meltAt 1 = .ok (.iload_n 1, 1) := by decide +kernel
theorem dX3_meltAt_2 : decode cX3_meltAt 2 = .ok (.iconst 1, 1) := by decide +kernel
theorem dX3_meltAt_3 : decode cX3_meltAt 3 = .ok (.isub, 1) := by decide +kernel
theorem dX3_meltAt_4 : decode cX3_meltAt 4 = .ok (.iload_n 2, 1) := by decide +kernel
theorem kw_3_142 : Cond.methodLink RX3 160 yX3_fireAt ∈ gw := gw_t3 (List.mem_of_getElem? (i := 142) (by decide +kernel)) (by decide +kernel)
theorem kw_3_144 : Cond.instanceMethod yX3_fireAt ∈ gw := gw_t3 (List.mem_of_getElem? (i := 144) (by decide +kernel)) (by decide +kernel)
theorem ks_1_12 : Cond.selects RX3 yX3_fireAt yX3_fireAt ∈ gw := gw_s (y := yX3_fireAt) (n := 6) (List.mem_append_left _ (List.mem_of_getElem? (i := 12) (by decide +kernel)))
theorem kw_3_145 : Cond.code yX3_fireAt cX3_fireAt 4 (some .int) ∈ gw := gw_t3 (List.mem_of_getElem? (i := 145) (by decide +kernel)) (by decide +kernel)
theorem gk_X3_160 : GoodIn gw (wsV RX3 160 RX3 yX3_fireAt (.code yX3_fireAt cX3_fireAt 4 (some .int) :: gw)) ∧ (yX3_fireAt.cls = RX3 ∧ yX3_fireAt.cls ≠ "java/lang/invoke/MethodHandle" ∧ yX3_fireAt.cls ≠ "java/lang/invoke/VarHandle" ∧ (parseMethodDescriptor yX3_fireAt.desc).map (fun d => d.parameters.length) = some 2) := ⟨gi_V kw_3_142 kw_3_144 ks_1_12 kw_1_6 kw_3_145, by decide +kernel⟩
theorem dX3_meltAt_5 : decode cX3_meltAt 5 = .ok (.invokevirtual 160, 3) := by decide +kernel
theorem dX3_meltAt_8 : decode cX3_meltAt 8 = .ok (.aload_n 0, 1) := by decide +kernel
theorem dX3_meltAt_9 : decode cX3_meltAt 9 = .ok (.iload_n 1, 1) := by decide +kernel
theorem dX3_meltAt_10 : decode cX3_meltAt 10 = .ok (.iconst 1, 1) := by decide +kernel
theorem dX3_meltAt_11 : decode cX3_meltAt 11 = .ok (.iadd, 1) := by decide +kernel
theorem dX3_meltAt_12 : decode cX3_meltAt 12 = .ok (.iload_n 2, 1) := by decide +kernel
theorem dX3_meltAt_13 : decode cX3_meltAt 13 = .ok (.invokevirtual 160, 3) := by decide +kernel
theorem dX3_meltAt_16 : decode cX3_meltAt 16 = .ok (.iadd, 1) := by decide +kernel
theorem dX3_meltAt_17 : decode cX3_meltAt 17 = .ok (.aload_n 0, 1) := by decide +kernel
theorem dX3_meltAt_18 : decode cX3_meltAt 18 = .ok (.iload_n 1, 1) := by decide +kernel
theorem dX3_meltAt_19 : decode cX3_meltAt 19 = .ok (.iload_n 2, 1) := by decide +kernel
theorem dX3_meltAt_20 : decode cX3_meltAt 20 = .ok (.iconst 1, 1) := by decide +kernel
theorem dX3_meltAt_21 : decode cX3_meltAt 21 = .ok (.isub, 1) := by decide +kernel
theorem dX3_meltAt_22 : decode cX3_meltAt 22 = .ok (.invokevirtual 160, 3) := by decide +kernel
theorem dX3_meltAt_25 : decode cX3_meltAt 25 = .ok (.iadd, 1) := by decide +kernel
theorem dX3_meltAt_26 : decode cX3_meltAt 26 = .ok (.aload_n 0, 1) := by decide +kernel
theorem dX3_meltAt_27 : decode cX3_meltAt 27 = .ok (.iload_n 1, 1) := by decide +kernel
theorem dX3_meltAt_28 : decode cX3_meltAt 28 = .ok (.iload_n 2, 1) := by decide +kernel
theorem dX3_meltAt_29 : decode cX3_meltAt 29 = .ok (.iconst 1, 1) := by decide +kernel
theorem dX3_meltAt_30 : decode cX3_meltAt 30 = .ok (.iadd, 1) := by decide +kernel
theorem dX3_meltAt_31 : decode cX3_meltAt 31 = .ok (.invokevirtual 160, 3) := by decide +kernel
theorem dX3_meltAt_34 : decode cX3_meltAt 34 = .ok (.iadd, 1) := by decide +kernel
theorem dX3_meltAt_35 : decode cX3_meltAt 35 = .ok (.istore_n 3, 1) := by decide +kernel
theorem dX3_meltAt_36 : decode cX3_meltAt 36 = .ok (.aload_n 0, 1) := by decide +kernel
theorem dX3_meltAt_37 : decode cX3_meltAt 37 = .ok (.iload_n 1, 1) := by decide +kernel
theorem dX3_meltAt_38 : decode cX3_meltAt 38 = .ok (.iload_n 2, 1) := by decide +kernel
theorem dX3_meltAt_39 : decode cX3_meltAt 39 = .ok (.invokevirtual 160, 3) := by decide +kernel
theorem dX3_meltAt_42 : decode cX3_meltAt 42 = .ok (.aload_n 0, 1) := by decide +kernel
theorem dX3_meltAt_43 : decode cX3_meltAt 43 = .ok (.getfield 12, 3) := by decide +kernel
theorem kw_3_151 : Cond.methodLink RX3 163 yX1_meltOn ∈ gw := gw_t3 (List.mem_of_getElem? (i := 151) (by decide +kernel)) (by decide +kernel)
theorem kw_3_152 : Cond.instanceMethod yX1_meltOn ∈ gw := gw_t3 (List.mem_of_getElem? (i := 152) (by decide +kernel)) (by decide +kernel)
theorem kw_3_153 : Cond.selects RX1 yX1_meltOn yX1_meltOn ∈ gw := gw_t3 (List.mem_of_getElem? (i := 153) (by decide +kernel)) (by decide +kernel)
theorem kw_3_154 : Cond.code yX1_meltOn cX1_meltOn 1 (some .int) ∈ gw := gw_t3 (List.mem_of_getElem? (i := 154) (by decide +kernel)) (by decide +kernel)
theorem gk_X3_163 : GoodIn gw (wsV RX3 163 RX1 yX1_meltOn (.code yX1_meltOn cX1_meltOn 1 (some .int) :: gw)) ∧ (yX1_meltOn.cls = RX1 ∧ yX1_meltOn.cls ≠ "java/lang/invoke/MethodHandle" ∧ yX1_meltOn.cls ≠ "java/lang/invoke/VarHandle" ∧ (parseMethodDescriptor yX1_meltOn.desc).map (fun d => d.parameters.length) = some 0) := ⟨gi_V kw_3_151 kw_3_152 kw_3_153 kw_1_4 kw_3_154, by decide +kernel⟩
theorem dX3_meltAt_46 : decode cX3_meltAt 46 = .ok (.invokevirtual 163, 3) := by decide +kernel
theorem dX3_meltAt_49 : decode cX3_meltAt 49 = .ok (.imul, 1) := by decide +kernel
theorem dX3_meltAt_50 : decode cX3_meltAt 50 = .ok (.iload_n 3, 1) := by decide +kernel
theorem dX3_meltAt_51 : decode cX3_meltAt 51 = .ok (.aload_n 0, 1) := by decide +kernel
theorem dX3_meltAt_52 : decode cX3_meltAt 52 = .ok (.getfield 12, 3) := by decide +kernel
theorem kw_3_155 : Cond.methodLink RX3 166 yX1_meltBeside ∈ gw := gw_t3 (List.mem_of_getElem? (i := 155) (by decide +kernel)) (by decide +kernel)
theorem kw_3_156 : Cond.instanceMethod yX1_meltBeside ∈ gw := gw_t3 (List.mem_of_getElem? (i := 156) (by decide +kernel)) (by decide +kernel)
theorem kw_3_157 : Cond.selects RX1 yX1_meltBeside yX1_meltBeside ∈ gw := gw_t3 (List.mem_of_getElem? (i := 157) (by decide +kernel)) (by decide +kernel)
theorem kw_3_158 : Cond.code yX1_meltBeside cX1_meltBeside 1 (some .int) ∈ gw := gw_t3 (List.mem_of_getElem? (i := 158) (by decide +kernel)) (by decide +kernel)
theorem gk_X3_166 : GoodIn gw (wsV RX3 166 RX1 yX1_meltBeside (.code yX1_meltBeside cX1_meltBeside 1 (some .int) :: gw)) ∧ (yX1_meltBeside.cls = RX1 ∧ yX1_meltBeside.cls ≠ "java/lang/invoke/MethodHandle" ∧ yX1_meltBeside.cls ≠ "java/lang/invoke/VarHandle" ∧ (parseMethodDescriptor yX1_meltBeside.desc).map (fun d => d.parameters.length) = some 0) := ⟨gi_V kw_3_155 kw_3_156 kw_3_157 kw_1_4 kw_3_158, by decide +kernel⟩
theorem dX3_meltAt_55 : decode cX3_meltAt 55 = .ok (.invokevirtual 166, 3) := by decide +kernel
theorem dX3_meltAt_58 : decode cX3_meltAt 58 = .ok (.imul, 1) := by decide +kernel
theorem dX3_meltAt_59 : decode cX3_meltAt 59 = .ok (.iadd, 1) := by decide +kernel
theorem dX3_meltAt_60 : decode cX3_meltAt 60 = .ok (.ireturn, 1) := by decide +kernel
set_option maxHeartbeats 4000000 in
set_option maxRecDepth 100000 in
theorem c_meltAt0 (l : Launch) (D : va_G) (h0 : Nat) (cu : Nat) (rv : Nat) (bt : Nat) (cu1 : Nat) (cu2 : Nat) (cu3 : Nat) (cu4 : Nat) (q1 : Nat) (q2 : Nat) (q3 : Nat) (q4 : Nat) (q5 : Nat) (q6 : Nat) (cc1 : ClassId) (cy4 : ClassId) (f4 : Nat → Int32) (w : Nat) (h : Nat) (x : Int32) (y : Int32) (ho : Int32) (fe : Int32) (h3 : w ≤ 10) (h4 : h ≤ 10) : cI l yX3_meltAt (.code yX3_meltAt cX3_meltAt 4 (some .int)) ({ frames := 3, cells := 0, slots := 0, locals := 67 }) D [(cc1, .int), (cy4, .int)] [(h0, .inr (3, [.ref cu, .ref rv, .ref bt, .int 0, .int ho, .int fe])), (cu, .inr (1, [.ref cu1, .ref cu2, .ref cu3, .ref cu4, .int 0, .int 0])), (cu1, .inl (cc1, 8, .inl uF)), (rv, .inr (5, [.int (nI w), .int (nI h), .ref q1, .ref q2, .ref q3, .ref q4, .ref q5, .ref q6])), (q4, .inl (cy4, 100, .inl f4))] xT [.ref h0, .int x, .int y] (S := Unit) (fun r _ => r = 0) (fun _ => []) (fun _ => [(h0, .inr (3, [.ref cu, .ref rv, .ref bt, .int 0, .int ho, .int fe])), (cu, .inr (1, [.ref cu1, .ref cu2, .ref cu3, .ref cu4, .int 0, .int 0])), (cu1, .inl (cc1, 8, .inl uF)), (rv, .inr (5, [.int (nI w), .int (nI h), .ref q1, .ref q2, .ref q3, .ref q4, .ref q5, .ref q6])), (q4, .inl (cy4, 100, .inl f4))]) := by
  intro sz
  refine Met.ofW (cc := cX3_meltAt) (maxL := 4) (ret := (some .int)) (by decide) rfl ?_
  intro p e s m args below meth c s₁ B hml hv
  obtain ⟨rfl, hsz, hP, hK, hD0, hX⟩ := hv
  have hx := B.exec
  have hb := B.bytes
  have hr := B.returns
  have hts0 := atoms_spec (ws := .code yX3_meltAt cX3_meltAt 4 (some .int) :: gw) B.pre
  have hts := fun (w : Cond) (h : w ∈ gw) => hts0 w (List.mem_cons_of_mem _ h)
  have hown : s.vm.findClass RX3 = some m.cls := findClass_of_methodNamed B.named
  have hlocks := B.notSynchronized
  have F : mFix p s m _ c cX3_meltAt 4 RX3 := ⟨hx, hb, hml, hown, hts⟩
  subst hsz
  have hD := hD0.self (sz := s.heap.size)
  generalize hAe : va_A [(h0, .inr (3, [.ref cu, .ref rv, .ref bt, .int 0, .int ho, .int fe])), (cu, .inr (1, [.ref cu1, .ref cu2, .ref cu3, .ref cu4, .int 0, .int 0])), (cu1, .inl (cc1, 8, .inl uF)), (rv, .inr (5, [.int (nI w), .int (nI h), .ref q1, .ref q2, .ref q3, .ref q4, .ref q5, .ref q6])), (q4, .inl (cy4, 100, .inl f4))] s.heap.size = A at hD hX ⊢
  have hA : ∀ q : Nat, s.heap.size ≤ q → A q := fun q h => by rw [← hAe]; exact Or.inr h
  have hS : va_S A s.heap s.heap [] := va_S.rf
  have hl := lv_entry ([.ref h0, .int x, .int y]) (n := 4) (Nat.le_of_ble_eq_true rfl)
  rw [lg_entry_eq]
  generalize (lg_sl ([.ref h0, .int x, .int y]) ++ List.replicate (4 - (lg_sl ([.ref h0, .int x, .int y])).length) Slot.unset).toArray = ls at hl ⊢
  have hl : lv_has ls 4 [(0, .ref h0), (1, .int x), (2, .int y)] := hl
  have hP : va_P D vwCl [(h0, .inr (3, [.ref cu, .ref rv, .ref bt, .int 0, .int ho, .int fe])), (cu, .inr (1, [.ref cu1, .ref cu2, .ref cu3, .ref cu4, .int 0, .int 0])), (cu1, .inl (cc1, 8, .inl uF)), (rv, .inr (5, [.int (nI w), .int (nI h), .ref q1, .ref q2, .ref q3, .ref q4, .ref q5, .ref q6])), (q4, .inl (cy4, 100, .inl f4))] s.heap := hP
  refine lv_aload_n hx hb dX3_meltAt_0 rfl (lv_at hl 0 rfl) ?_
  refine lv_iload_n hx hb dX3_meltAt_1 rfl (lv_at hl 1 rfl) ?_
  refine lv_iconst (v := 1) hx hb dX3_meltAt_2 (by decide) ?_
  refine lv_isub hx hb dX3_meltAt_3 ?_
  refine lv_topi (fun z_1 ez_1 => ?_)
  refine lv_iload_n hx hb dX3_meltAt_4 rfl (lv_at hl 2 rfl) ?_
  refine mc_Vi (rest := []) (wr := [(cu, .inr (1, [.ref cu1, .ref cu2, .ref cu3, .ref cu4, .int 0, .int 0])), (cu1, .inl (cc1, 8, .inl uF))]) F hK hP hD hS hA (c_fireAt0 l D h0 cu rv bt q1 q2 q3 q4 q5 q6 cy4 f4 w h z_1 y ho fe (by omega) (by omega)) ⟨gk_X3_160.1, gk_X3_160.2, Nat.le_of_ble_eq_true rfl, Nat.le_of_ble_eq_true rfl⟩ [0, 3, 4] [1, 2] [1] ⟨rfl, rfl, rfl, rfl, by decide⟩ rfl xT_move (fun _ _ _ => trivial) 0 rfl rfl rfl hl.1 rfl (Nat.le_of_ble_eq_true rfl) dX3_meltAt_5 ⟨Nat.le_of_ble_eq_true rfl, Nat.le_of_ble_eq_true rfl⟩ (fun r_2 _ H locs hw hK1 hP hD hS => ?_)
  have hP : va_P D vwCl [(cu, .inr (1, [.ref cu1, .ref cu2, .ref cu3, .ref cu4, .int 0, .int 0])), (cu1, .inl (cc1, 8, .inl uF)), (h0, .inr (3, [.ref cu, .ref rv, .ref bt, .int 0, .int ho, .int fe])), (rv, .inr (5, [.int (nI w), .int (nI h), .ref q1, .ref q2, .ref q3, .ref q4, .ref q5, .ref q6])), (q4, .inl (cy4, 100, .inl f4))] H := hP
  have hD : va_D A [(cu, .inr (1, [.ref cu1, .ref cu2, .ref cu3, .ref cu4, .int 0, .int 0])), (cu1, .inl (cc1, 8, .inl uF)), (h0, .inr (3, [.ref cu, .ref rv, .ref bt, .int 0, .int ho, .int fe])), (rv, .inr (5, [.int (nI w), .int (nI h), .ref q1, .ref q2, .ref q3, .ref q4, .ref q5, .ref q6])), (q4, .inl (cy4, 100, .inl f4))] := hD
  have hw_3 : r_2 = 0 := hw
  obtain rfl : r_2 = 0 := hw_3
  refine lv_aload_n hx hb dX3_meltAt_8 rfl (lv_at hl 0 rfl) ?_
  refine lv_iload_n hx hb dX3_meltAt_9 rfl (lv_at hl 1 rfl) ?_
  refine lv_iconst (v := 1) hx hb dX3_meltAt_10 (by decide) ?_
  refine lv_iadd hx hb dX3_meltAt_11 ?_
  refine lv_topi (fun z_4 ez_4 => ?_)
  refine lv_iload_n hx hb dX3_meltAt_12 rfl (lv_at hl 2 rfl) ?_
  refine mc_Vi (rest := [.int 0]) (wr := [(cu, .inr (1, [.ref cu1, .ref cu2, .ref cu3, .ref cu4, .int 0, .int 0])), (cu1, .inl (cc1, 8, .inl uF))]) F hK hP hD hS hA (c_fireAt0 l D h0 cu rv bt q1 q2 q3 q4 q5 q6 cy4 f4 w h z_4 y ho fe (by omega) (by omega)) ⟨gk_X3_160.1, gk_X3_160.2, Nat.le_of_ble_eq_true rfl, Nat.le_of_ble_eq_true rfl⟩ [2, 3, 4] [0, 1] [1] ⟨rfl, rfl, rfl, rfl, by decide⟩ rfl xT_move (fun _ _ _ => trivial) 2 rfl rfl rfl hl.1 rfl (Nat.le_of_ble_eq_true rfl) dX3_meltAt_13 ⟨Nat.le_of_ble_eq_true rfl, Nat.le_of_ble_eq_true rfl⟩ (fun r_5 _ H locs hw hK1 hP hD hS => ?_)
  have hP : va_P D vwCl [(cu, .inr (1, [.ref cu1, .ref cu2, .ref cu3, .ref cu4, .int 0, .int 0])), (cu1, .inl (cc1, 8, .inl uF)), (h0, .inr (3, [.ref cu, .ref rv, .ref bt, .int 0, .int ho, .int fe])), (rv, .inr (5, [.int (nI w), .int (nI h), .ref q1, .ref q2, .ref q3, .ref q4, .ref q5, .ref q6])), (q4, .inl (cy4, 100, .inl f4))] H := hP
  have hD : va_D A [(cu, .inr (1, [.ref cu1, .ref cu2, .ref cu3, .ref cu4, .int 0, .int 0])), (cu1, .inl (cc1, 8, .inl uF)), (h0, .inr (3, [.ref cu, .ref rv, .ref bt, .int 0, .int ho, .int fe])), (rv, .inr (5, [.int (nI w), .int (nI h), .ref q1, .ref q2, .ref q3, .ref q4, .ref q5, .ref q6])), (q4, .inl (cy4, 100, .inl f4))] := hD
  have hw_6 : r_5 = 0 := hw
  obtain rfl : r_5 = 0 := hw_6
  refine lv_iadd hx hb dX3_meltAt_16 ?_
  refine lv_topi (fun z_7 ez_7 => ?_)
  obtain rfl : z_7 = (0 : Int32) := ez_7.trans (by decide)
  refine lv_aload_n hx hb dX3_meltAt_17 rfl (lv_at hl 0 rfl) ?_
  refine lv_iload_n hx hb dX3_meltAt_18 rfl (lv_at hl 1 rfl) ?_
  refine lv_iload_n hx hb dX3_meltAt_19 rfl (lv_at hl 2 rfl) ?_
  refine lv_iconst (v := 1) hx hb dX3_meltAt_20 (by decide) ?_
  refine lv_isub hx hb dX3_meltAt_21 ?_
  refine lv_topi (fun z_8 ez_8 => ?_)
  refine mc_Vi (rest := [.int 0]) (wr := [(cu, .inr (1, [.ref cu1, .ref cu2, .ref cu3, .ref cu4, .int 0, .int 0])), (cu1, .inl (cc1, 8, .inl uF))]) F hK hP hD hS hA (c_fireAt0 l D h0 cu rv bt q1 q2 q3 q4 q5 q6 cy4 f4 w h x z_8 ho fe (by omega) (by omega)) ⟨gk_X3_160.1, gk_X3_160.2, Nat.le_of_ble_eq_true rfl, Nat.le_of_ble_eq_true rfl⟩ [2, 3, 4] [0, 1] [1] ⟨rfl, rfl, rfl, rfl, by decide⟩ rfl xT_move (fun _ _ _ => trivial) 2 rfl rfl rfl hl.1 rfl (Nat.le_of_ble_eq_true rfl) dX3_meltAt_22 ⟨Nat.le_of_ble_eq_true rfl, Nat.le_of_ble_eq_true rfl⟩ (fun r_9 _ H locs hw hK1 hP hD hS => ?_)
  have hP : va_P D vwCl [(cu, .inr (1, [.ref cu1, .ref cu2, .ref cu3, .ref cu4, .int 0, .int 0])), (cu1, .inl (cc1, 8, .inl uF)), (h0, .inr (3, [.ref cu, .ref rv, .ref bt, .int 0, .int ho, .int fe])), (rv, .inr (5, [.int (nI w), .int (nI h), .ref q1, .ref q2, .ref q3, .ref q4, .ref q5, .ref q6])), (q4, .inl (cy4, 100, .inl f4))] H := hP
  have hD : va_D A [(cu, .inr (1, [.ref cu1, .ref cu2, .ref cu3, .ref cu4, .int 0, .int 0])), (cu1, .inl (cc1, 8, .inl uF)), (h0, .inr (3, [.ref cu, .ref rv, .ref bt, .int 0, .int ho, .int fe])), (rv, .inr (5, [.int (nI w), .int (nI h), .ref q1, .ref q2, .ref q3, .ref q4, .ref q5, .ref q6])), (q4, .inl (cy4, 100, .inl f4))] := hD
  have hw_10 : r_9 = 0 := hw
  obtain rfl : r_9 = 0 := hw_10
  refine lv_iadd hx hb dX3_meltAt_25 ?_
  refine lv_topi (fun z_11 ez_11 => ?_)
  obtain rfl : z_11 = (0 : Int32) := ez_11.trans (by decide)
  refine lv_aload_n hx hb dX3_meltAt_26 rfl (lv_at hl 0 rfl) ?_
  refine lv_iload_n hx hb dX3_meltAt_27 rfl (lv_at hl 1 rfl) ?_
  refine lv_iload_n hx hb dX3_meltAt_28 rfl (lv_at hl 2 rfl) ?_
  refine lv_iconst (v := 1) hx hb dX3_meltAt_29 (by decide) ?_
  refine lv_iadd hx hb dX3_meltAt_30 ?_
  refine lv_topi (fun z_12 ez_12 => ?_)
  refine mc_Vi (rest := [.int 0]) (wr := [(cu, .inr (1, [.ref cu1, .ref cu2, .ref cu3, .ref cu4, .int 0, .int 0])), (cu1, .inl (cc1, 8, .inl uF))]) F hK hP hD hS hA (c_fireAt0 l D h0 cu rv bt q1 q2 q3 q4 q5 q6 cy4 f4 w h x z_12 ho fe (by omega) (by omega)) ⟨gk_X3_160.1, gk_X3_160.2, Nat.le_of_ble_eq_true rfl, Nat.le_of_ble_eq_true rfl⟩ [2, 3, 4] [0, 1] [1] ⟨rfl, rfl, rfl, rfl, by decide⟩ rfl xT_move (fun _ _ _ => trivial) 2 rfl rfl rfl hl.1 rfl (Nat.le_of_ble_eq_true rfl) dX3_meltAt_31 ⟨Nat.le_of_ble_eq_true rfl, Nat.le_of_ble_eq_true rfl⟩ (fun r_13 _ H locs hw hK1 hP hD hS => ?_)
  have hP : va_P D vwCl [(cu, .inr (1, [.ref cu1, .ref cu2, .ref cu3, .ref cu4, .int 0, .int 0])), (cu1, .inl (cc1, 8, .inl uF)), (h0, .inr (3, [.ref cu, .ref rv, .ref bt, .int 0, .int ho, .int fe])), (rv, .inr (5, [.int (nI w), .int (nI h), .ref q1, .ref q2, .ref q3, .ref q4, .ref q5, .ref q6])), (q4, .inl (cy4, 100, .inl f4))] H := hP
  have hD : va_D A [(cu, .inr (1, [.ref cu1, .ref cu2, .ref cu3, .ref cu4, .int 0, .int 0])), (cu1, .inl (cc1, 8, .inl uF)), (h0, .inr (3, [.ref cu, .ref rv, .ref bt, .int 0, .int ho, .int fe])), (rv, .inr (5, [.int (nI w), .int (nI h), .ref q1, .ref q2, .ref q3, .ref q4, .ref q5, .ref q6])), (q4, .inl (cy4, 100, .inl f4))] := hD
  have hw_14 : r_13 = 0 := hw
  obtain rfl : r_13 = 0 := hw_14
  refine lv_iadd hx hb dX3_meltAt_34 ?_
  refine lv_topi (fun z_15 ez_15 => ?_)
  obtain rfl : z_15 = (0 : Int32) := ez_15.trans (by decide)
  refine lv_istore_n (lv' := [(3, .int 0), (0, .ref h0), (1, .int x), (2, .int y)]) hx hb dX3_meltAt_35 rfl hl (by decide) rfl (fun ls hl => ?_)
  refine lv_aload_n hx hb dX3_meltAt_36 rfl (lv_at hl 1 rfl) ?_
  refine lv_iload_n hx hb dX3_meltAt_37 rfl (lv_at hl 2 rfl) ?_
  refine lv_iload_n hx hb dX3_meltAt_38 rfl (lv_at hl 3 rfl) ?_
  refine mc_Vi (rest := []) (wr := [(cu, .inr (1, [.ref cu1, .ref cu2, .ref cu3, .ref cu4, .int 0, .int 0])), (cu1, .inl (cc1, 8, .inl uF))]) F hK hP hD hS hA (c_fireAt0 l D h0 cu rv bt q1 q2 q3 q4 q5 q6 cy4 f4 w h x y ho fe (by omega) (by omega)) ⟨gk_X3_160.1, gk_X3_160.2, Nat.le_of_ble_eq_true rfl, Nat.le_of_ble_eq_true rfl⟩ [2, 3, 4] [0, 1] [1] ⟨rfl, rfl, rfl, rfl, by decide⟩ rfl xT_move (fun _ _ _ => trivial) 2 rfl rfl rfl hl.1 rfl (Nat.le_of_ble_eq_true rfl) dX3_meltAt_39 ⟨Nat.le_of_ble_eq_true rfl, Nat.le_of_ble_eq_true rfl⟩ (fun r_16 _ H locs hw hK1 hP hD hS => ?_)
  have hP : va_P D vwCl [(cu, .inr (1, [.ref cu1, .ref cu2, .ref cu3, .ref cu4, .int 0, .int 0])), (cu1, .inl (cc1, 8, .inl uF)), (h0, .inr (3, [.ref cu, .ref rv, .ref bt, .int 0, .int ho, .int fe])), (rv, .inr (5, [.int (nI w), .int (nI h), .ref q1, .ref q2, .ref q3, .ref q4, .ref q5, .ref q6])), (q4, .inl (cy4, 100, .inl f4))] H := hP
  have hD : va_D A [(cu, .inr (1, [.ref cu1, .ref cu2, .ref cu3, .ref cu4, .int 0, .int 0])), (cu1, .inl (cc1, 8, .inl uF)), (h0, .inr (3, [.ref cu, .ref rv, .ref bt, .int 0, .int ho, .int fe])), (rv, .inr (5, [.int (nI w), .int (nI h), .ref q1, .ref q2, .ref q3, .ref q4, .ref q5, .ref q6])), (q4, .inl (cy4, 100, .inl f4))] := hD
  have hw_17 : r_16 = 0 := hw
  obtain rfl : r_16 = 0 := hw_17
  refine lv_aload_n hx hb dX3_meltAt_42 rfl (lv_at hl 1 rfl) ?_
  refine va_get (D := D) (ci := 3) (v := .ref cu) (C := RX3) (T := TX3) (N := 6) hx hb hts inG_X3 hown hK hP 2 rfl rfl 0 (by decide) (hts _ kw_1_215) (fun _ h9 => h9) rfl dX3_meltAt_43 ?_
  refine mc_Vi (rest := [.int 0]) (wr := [(h0, .inr (3, [.ref cu, .ref rv, .ref bt, .int 0, .int ho, .int fe])), (rv, .inr (5, [.int (nI w), .int (nI h), .ref q1, .ref q2, .ref q3, .ref q4, .ref q5, .ref q6])), (q4, .inl (cy4, 100, .inl f4))]) F hK hP hD hS hA (c_cu_meltOn l D cu cu1 cu2 cu3 cu4 cc1 0 0 ) ⟨gk_X3_163.1, gk_X3_163.2, Nat.le_of_ble_eq_true rfl, Nat.le_of_ble_eq_true rfl⟩ [0, 1] [2, 3, 4] [0] ⟨rfl, rfl, rfl, rfl, by decide⟩ rfl xT_move (fun _ _ _ => trivial) 0 rfl rfl rfl hl.1 rfl (Nat.le_of_ble_eq_true rfl) dX3_meltAt_46 ⟨Nat.le_of_ble_eq_true rfl, Nat.le_of_ble_eq_true rfl⟩ (fun r_18 _ H locs hw hK1 hP hD hS => ?_)
  have hP : va_P D vwCl [(h0, .inr (3, [.ref cu, .ref rv, .ref bt, .int 0, .int ho, .int fe])), (rv, .inr (5, [.int (nI w), .int (nI h), .ref q1, .ref q2, .ref q3, .ref q4, .ref q5, .ref q6])), (q4, .inl (cy4, 100, .inl f4)), (cu, .inr (1, [.ref cu1, .ref cu2, .ref cu3, .ref cu4, .int 0, .int 0])), (cu1, .inl (cc1, 8, .inl uF))] H := hP
  have hD : va_D A [(h0, .inr (3, [.ref cu, .ref rv, .ref bt, .int 0, .int ho, .int fe])), (rv, .inr (5, [.int (nI w), .int (nI h), .ref q1, .ref q2, .ref q3, .ref q4, .ref q5, .ref q6])), (q4, .inl (cy4, 100, .inl f4)), (cu, .inr (1, [.ref cu1, .ref cu2, .ref cu3, .ref cu4, .int 0, .int 0])), (cu1, .inl (cc1, 8, .inl uF))] := hD
  have hw_19 : r_18 = 1 := hw
  obtain rfl : r_18 = 1 := hw_19
  refine lv_imul hx hb dX3_meltAt_49 ?_
  refine lv_topi (fun z_20 ez_20 => ?_)
  obtain rfl : z_20 = (0 : Int32) := ez_20.trans (by decide)
  refine lv_iload_n hx hb dX3_meltAt_50 rfl (lv_at hl 0 rfl) ?_
  refine lv_aload_n hx hb dX3_meltAt_51 rfl (lv_at hl 1 rfl) ?_
  refine va_get (D := D) (ci := 3) (v := .ref cu) (C := RX3) (T := TX3) (N := 6) hx hb hts inG_X3 hown hK hP 0 rfl rfl 0 (by decide) (hts _ kw_1_215) (fun _ h9 => h9) rfl dX3_meltAt_52 ?_
  refine mc_Vi (rest := [.int 0, .int 0]) (wr := [(h0, .inr (3, [.ref cu, .ref rv, .ref bt, .int 0, .int ho, .int fe])), (rv, .inr (5, [.int (nI w), .int (nI h), .ref q1, .ref q2, .ref q3, .ref q4, .ref q5, .ref q6])), (q4, .inl (cy4, 100, .inl f4))]) F hK hP hD hS hA (c_cu_meltBeside l D cu cu1 cu2 cu3 cu4 cc1 0 0 ) ⟨gk_X3_166.1, gk_X3_166.2, Nat.le_of_ble_eq_true rfl, Nat.le_of_ble_eq_true rfl⟩ [3, 4] [0, 1, 2] [0] ⟨rfl, rfl, rfl, rfl, by decide⟩ rfl xT_move (fun _ _ _ => trivial) 3 rfl rfl rfl hl.1 rfl (Nat.le_of_ble_eq_true rfl) dX3_meltAt_55 ⟨Nat.le_of_ble_eq_true rfl, Nat.le_of_ble_eq_true rfl⟩ (fun r_21 _ H locs hw hK1 hP hD hS => ?_)
  have hP : va_P D vwCl [(h0, .inr (3, [.ref cu, .ref rv, .ref bt, .int 0, .int ho, .int fe])), (rv, .inr (5, [.int (nI w), .int (nI h), .ref q1, .ref q2, .ref q3, .ref q4, .ref q5, .ref q6])), (q4, .inl (cy4, 100, .inl f4)), (cu, .inr (1, [.ref cu1, .ref cu2, .ref cu3, .ref cu4, .int 0, .int 0])), (cu1, .inl (cc1, 8, .inl uF))] H := hP
  have hD : va_D A [(h0, .inr (3, [.ref cu, .ref rv, .ref bt, .int 0, .int ho, .int fe])), (rv, .inr (5, [.int (nI w), .int (nI h), .ref q1, .ref q2, .ref q3, .ref q4, .ref q5, .ref q6])), (q4, .inl (cy4, 100, .inl f4)), (cu, .inr (1, [.ref cu1, .ref cu2, .ref cu3, .ref cu4, .int 0, .int 0])), (cu1, .inl (cc1, 8, .inl uF))] := hD
  have hw_22 : r_21 = 0 := hw
  obtain rfl : r_21 = 0 := hw_22
  refine lv_imul hx hb dX3_meltAt_58 ?_
  refine lv_topi (fun z_23 ez_23 => ?_)
  obtain rfl : z_23 = (0 : Int32) := ez_23.trans (by decide)
  refine lv_iadd hx hb dX3_meltAt_59 ?_
  refine lv_topi (fun z_24 ez_24 => ?_)
  obtain rfl : z_24 = (0 : Int32) := ez_24.trans (by decide)
  have hP9 := hP.sub (ws' := [(h0, .inr (3, [.ref cu, .ref rv, .ref bt, .int 0, .int ho, .int fe])), (cu, .inr (1, [.ref cu1, .ref cu2, .ref cu3, .ref cu4, .int 0, .int 0])), (cu1, .inl (cc1, 8, .inl uF)), (rv, .inr (5, [.int (nI w), .int (nI h), .ref q1, .ref q2, .ref q3, .ref q4, .ref q5, .ref q6])), (q4, .inl (cy4, 100, .inl f4))]) [0, 3, 4, 1, 2] rfl
  have hD9 := hD.sub (ws' := [(h0, .inr (3, [.ref cu, .ref rv, .ref bt, .int 0, .int ho, .int fe])), (cu, .inr (1, [.ref cu1, .ref cu2, .ref cu3, .ref cu4, .int 0, .int 0])), (cu1, .inl (cc1, 8, .inl uF)), (rv, .inr (5, [.int (nI w), .int (nI h), .ref q1, .ref q2, .ref q3, .ref q4, .ref q5, .ref q6])), (q4, .inl (cy4, 100, .inl f4))]) [0, 3, 4, 1, 2] (by decide) rfl
  have hK9 := hK.sub (tys' := []) [] rfl
  refine W.widen (k := 0) (n := 0) (by decide) (by decide) ?_
  exact W.iret (v := 0) hx hb hr (fun t ht hW => ⟨⟨0, (), rfl, rfl, by rw [ht]; exact hP9, va_K.moved hW.alike hK9, hD9⟩, hS.F ht⟩) hS.2.2 dX3_meltAt_60
theorem dX3_breakMarked_17 : decode cX3_breakMarked 17 = .ok (.iload_n 3, 1) := by decide +kernel
theorem dX3_breakMarked_18 : decode cX3_breakMarked 18 = .ok (.aload_n 0, 1) := by decide +kernel
theorem dX3_breakMarked_19 : decode cX3_breakMarked 19 = .ok (.getfield 21, 3) := by decide +kernel
theorem kw_1_144 : Cond.fieldLink RX3 145 "IceFair$River" "width" "I" ∈ gw := gw_t1 (List.mem_of_getElem? (i := 144) (by decide +kernel)) (by decide +kernel)
theorem dX3_breakMarked_22 : decode cX3_breakMarked 22 = .ok (.getfield 145, 3) := by decide +kernel
theorem dX3_breakMarked_25 : decode cX3_breakMarked 25 = .ok (.if_icmp .ge 30, 3) := by decide +kernel
theorem dX3_breakMarked_28 : decode cX3_breakMarked 28 = .ok (.aload_n 0, 1) := by decide +kernel
theorem dX3_breakMarked_29 : decode cX3_breakMarked 29 = .ok (.getfield 21, 3) := by decide +kernel
theorem dX3_breakMarked_32 : decode cX3_breakMarked 32 = .ok (.iload_n 3, 1) := by decide +kernel
theorem dX3_breakMarked_33 : decode cX3_breakMarked 33 = .ok (.iload_n 2, 1) := by decide +kernel
theorem kw_3_177 : Cond.methodLink RX3 176 yX6_crackIfMarked ∈ gw := gw_t3 (List.mem_of_getElem? (i := 177) (by decide +kernel)) (by decide +kernel)
theorem kw_3_178 : Cond.instanceMethod yX6_crackIfMarked ∈ gw := gw_t3 (List.mem_of_getElem? (i := 178) (by decide +kernel)) (by decide +kernel)
theorem kw_3_179 : Cond.selects RX6 yX6_crackIfMarked yX6_crackIfMarked ∈ gw := gw_t3 (List.mem_of_getElem? (i := 179) (by decide +kernel)) (by decide +kernel)
theorem kw_3_180 : Cond.code yX6_crackIfMarked cX6_crackIfMarked 3 (some .boolean) ∈ gw := gw_t3 (List.mem_of_getElem? (i := 180) (by decide +kernel)) (by decide +kernel)
theorem gk_X3_176 : GoodIn gw (wsV RX3 176 RX6 yX6_crackIfMarked (.code yX6_crackIfMarked cX6_crackIfMarked 3 (some .boolean) :: gw)) ∧ (yX6_crackIfMarked.cls = RX6 ∧ yX6_crackIfMarked.cls ≠ "java/lang/invoke/MethodHandle" ∧ yX6_crackIfMarked.cls ≠ "java/lang/invoke/VarHandle" ∧ (parseMethodDescriptor yX6_crackIfMarked.desc).map (fun d => d.parameters.length) = some 2) := ⟨gi_V kw_3_177 kw_3_178 kw_3_179 kw_1_7 kw_3_180, by decide +kernel⟩
theorem dX3_breakMarked_34 : decode cX3_breakMarked 34 = .ok (.invokevirtual 176, 3) := by decide +kernel
theorem dX3_breakMarked_37 : decode cX3_breakMarked 37 = .ok (.ifCond .eq 12, 3) := by decide +kernel
theorem dX3_breakMarked_49 : decode cX3_breakMarked 49 = .ok (.iinc 3 1, 3) := by decide +kernel
theorem dX3_breakMarked_52 : decode cX3_breakMarked 52 = .ok (.goto (-35), 3) := by decide +kernel
theorem dX3_breakMarked_40 : decode cX3_breakMarked 40 = .ok (.iload_n 1, 1) := by decide +kernel
theorem dX3_breakMarked_41 : decode cX3_breakMarked 41 = .ok (.aload_n 0, 1) := by decide +kernel
theorem dX3_breakMarked_42 : decode cX3_breakMarked 42 = .ok (.iload_n 3, 1) := by decide +kernel
theorem dX3_breakMarked_43 : decode cX3_breakMarked 43 = .ok (.iload_n 2, 1) := by decide +kernel
theorem kw_3_181 : Cond.methodLink RX3 179 yX3_sinkAt ∈ gw := gw_t3 (List.mem_of_getElem? (i := 181) (by decide +kernel)) (by decide +kernel)
theorem kw_3_183 : Cond.instanceMethod yX3_sinkAt ∈ gw := gw_t3 (List.mem_of_getElem? (i := 183) (by decide +kernel)) (by decide +kernel)
theorem ks_1_14 : Cond.selects RX3 yX3_sinkAt yX3_sinkAt ∈ gw := gw_s (y := yX3_sinkAt) (n := 6) (List.mem_append_left _ (List.mem_of_getElem? (i := 14) (by decide +kernel)))
theorem kw_3_184 : Cond.code yX3_sinkAt cX3_sinkAt 4 (some .int) ∈ gw := gw_t3 (List.mem_of_getElem? (i := 184) (by decide +kernel)) (by decide +kernel)
theorem gk_X3_179 : GoodIn gw (wsV RX3 179 RX3 yX3_sinkAt (.code yX3_sinkAt cX3_sinkAt 4 (some .int) :: gw)) ∧ (yX3_sinkAt.cls = RX3 ∧ yX3_sinkAt.cls ≠ "java/lang/invoke/MethodHandle" ∧ yX3_sinkAt.cls ≠ "java/lang/invoke/VarHandle" ∧ (parseMethodDescriptor yX3_sinkAt.desc).map (fun d => d.parameters.length) = some 2) := ⟨gi_V kw_3_181 kw_3_183 ks_1_14 kw_1_6 kw_3_184, by decide +kernel⟩
theorem dX3_breakMarked_44 : decode cX3_breakMarked 44 = .ok (.invokevirtual 179, 3) := by decide +kernel
theorem dX3_breakMarked_47 : decode cX3_breakMarked 47 = .ok (.iadd, 1) := by decide +kernel
theorem dX3_breakMarked_48 : decode cX3_breakMarked 48 = .ok (.istore_n 1, 1) := by decide +kernel
set_option maxHeartbeats 4000000 in
set_option maxRecDepth 100000 in
theorem lp_break_in {p : Program} {l : Launch} {e : Env} {s : State} {m : MethodId} {args : Array Value} {below : List Frame} {meth : Method} {c : Code} {Q : State → Prop} {A : Nat → Prop} {D : va_G} (F : mFix p s m args c cX3_breakMarked 4 RX3) (hA : ∀ q, s.heap.size ≤ q → A q) (h0 : Nat) (cu : Nat) (rv : Nat) (bt : Nat) (q1 : Nat) (q2 : Nat) (q3 : Nat) (q4 : Nat) (q5 : Nat) (q6 : Nat) (cy4 : ClassId) (cy5 : ClassId) (cy6 : ClassId) (f4 : Nat → Int32) (f6 : Nat → Int32) (w : Nat) (h : Nat) (ho : Int32) (fe : Int32) (j : Nat) (hK : va_K D vwCl [(cy4, .int), (cy5, .boolean), (cy6, .boolean)] s)
    (kx_55 : ∀ (g5 : Nat → Int32), ∀ (H : Heap) (locs : List Loc), va_P D vwCl [(h0, .inr (3, [.ref cu, .ref rv, .ref bt, .int 0, .int ho, .int fe])), (rv, .inr (5, [.int (nI w), .int (nI h), .ref q1, .ref q2, .ref q3, .ref q4, .ref q5, .ref q6])), (q4, .inl (cy4, 100, .inl f4)), (q5, .inl (cy5, 100, .inl g5)), (q6, .inl (cy6, 100, .inl f6))] H → va_D A [(h0, .inr (3, [.ref cu, .ref rv, .ref bt, .int 0, .int ho, .int fe])), (rv, .inr (5, [.int (nI w), .int (nI h), .ref q1, .ref q2, .ref q3, .ref q4, .ref q5, .ref q6])), (q4, .inl (cy4, 100, .inl f4)), (q5, .inl (cy5, 100, .inl g5)), (q6, .inl (cy6, 100, .inl f6))] → va_S A s.heap H locs → ∀ ls : Array Slot, lv_has ls 4 [(0, .ref h0), (1, .int 0), (2, .int (nI j))] → W p l e ({ frames := 4, cells := 0, slots := 0, locals := 92 }) s m args below meth c H locs 0 0 Q (F0 m 55 ls [])) :
    ∀ n : Nat, ∀ (g5 : Nat → Int32) (i : Nat), (i ≤ w) → (j < h) → (w ≤ 10) → (h ≤ 10) → (w - i) < n → ∀ (H : Heap) (locs : List Loc), va_P D vwCl [(h0, .inr (3, [.ref cu, .ref rv, .ref bt, .int 0, .int ho, .int fe])), (rv, .inr (5, [.int (nI w), .int (nI h), .ref q1, .ref q2, .ref q3, .ref q4, .ref q5, .ref q6])), (q4, .inl (cy4, 100, .inl f4)), (q5, .inl (cy5, 100, .inl g5)), (q6, .inl (cy6, 100, .inl f6))] H → va_D A [(h0, .inr (3, [.ref cu, .ref rv, .ref bt, .int 0, .int ho, .int fe])), (rv, .inr (5, [.int (nI w), .int (nI h), .ref q1, .ref q2, .ref q3, .ref q4, .ref q5, .ref q6])), (q4, .inl (cy4, 100, .inl f4)), (q5, .inl (cy5, 100, .inl g5)), (q6, .inl (cy6, 100, .inl f6))] → va_S A s.heap H locs → ∀ ls : Array Slot, lv_has ls 4 [(0, .ref h0), (1, .int 0), (2, .int (nI j)), (3, .int (nI i))] → W p l e ({ frames := 4, cells := 0, slots := 0, locals := 92 }) s m args below meth c H locs 0 0 Q (F0 m 17 ls []) := by
  intro n
  induction n with
  | zero => intro g5 i b1 b2 h3 h4 hn; exact absurd hn (Nat.not_lt_zero _)
  | succ n ih =>
    intro g5 i b1 b2 h3 h4 hn H locs hP hD hS ls hl
    obtain ⟨hx, hb, hml, hown, hts⟩ := id F
    refine lv_iload_n hx hb dX3_breakMarked_17 rfl (lv_at hl 3 rfl) ?_
    refine lv_aload_n hx hb dX3_breakMarked_18 rfl (lv_at hl 0 rfl) ?_
    refine va_get (D := D) (ci := 3) (v := .ref rv) (C := RX3) (T := TX3) (N := 6) hx hb hts inG_X3 hown hK hP 0 rfl rfl 1 (by decide) (hts _ kw_1_219) (fun _ h9 => h9) rfl dX3_breakMarked_19 ?_
    refine va_get (D := D) (ci := 5) (v := .int (nI w)) (C := RX6) (T := TX6) (N := 8) hx hb hts inG_X6 hown hK hP 1 rfl rfl 0 (by decide) (hts _ kw_1_144) (fun _ h9 => h9) rfl dX3_breakMarked_22 ?_
    refine lv_icmp_ge (tgt := 55) hx hb dX3_breakMarked_25 (by decide) (fun c_1 => ?_) (fun c_1 => ?_)
    · skip
      have c_1n : w ≤ i := (nI_leI (by omega) (by omega)).mp c_1
      have c_1 := Int32.not_lt.mpr c_1
      exact kx_55 g5  H locs (hP.sub [0, 1, 2, 3, 4] rfl) (hD.sub [0, 1, 2, 3, 4] (by decide) rfl) hS ls (lv_sub hl [0, 1, 2] rfl)
    · skip
      have c_1n : i < w := nb_le (by omega) (by omega) c_1
      have c_1 := Int32.not_le.mp c_1
      refine lv_aload_n hx hb dX3_breakMarked_28 rfl (lv_at hl 0 rfl) ?_
      refine va_get (D := D) (ci := 3) (v := .ref rv) (C := RX3) (T := TX3) (N := 6) hx hb hts inG_X3 hown hK hP 0 rfl rfl 1 (by decide) (hts _ kw_1_219) (fun _ h9 => h9) rfl dX3_breakMarked_29 ?_
      refine lv_iload_n hx hb dX3_breakMarked_32 rfl (lv_at hl 3 rfl) ?_
      refine lv_iload_n hx hb dX3_breakMarked_33 rfl (lv_at hl 2 rfl) ?_
      refine mc_Vi (rest := []) (wr := [(h0, .inr (3, [.ref cu, .ref rv, .ref bt, .int 0, .int ho, .int fe])), (q4, .inl (cy4, 100, .inl f4))]) F hK hP hD hS hA (c_crackIfMarked l D rv q1 q2 q3 q4 q5 q6 cy5 cy6 g5 f6 w h i j (by omega) (by omega) (by omega) (by omega)) ⟨gk_X3_176.1, gk_X3_176.2, Nat.le_of_ble_eq_true rfl, Nat.le_of_ble_eq_true rfl⟩ [1, 3, 4] [0, 2] [1, 2] ⟨rfl, rfl, rfl, rfl, by decide⟩ rfl xT_move (fun _ _ _ => trivial) 1 rfl rfl rfl hl.1 rfl (Nat.le_of_ble_eq_true rfl) dX3_breakMarked_34 ⟨Nat.le_of_ble_eq_true rfl, Nat.le_of_ble_eq_true rfl⟩ (fun r_3 g5_2 H locs hw hK1 hP hD hS => ?_)
      have hP : va_P D vwCl [(h0, .inr (3, [.ref cu, .ref rv, .ref bt, .int 0, .int ho, .int fe])), (q4, .inl (cy4, 100, .inl f4)), (rv, .inr (5, [.int (nI w), .int (nI h), .ref q1, .ref q2, .ref q3, .ref q4, .ref q5, .ref q6])), (q5, .inl (cy5, 100, .inl g5_2)), (q6, .inl (cy6, 100, .inl f6))] H := hP
      have hD : va_D A [(h0, .inr (3, [.ref cu, .ref rv, .ref bt, .int 0, .int ho, .int fe])), (q4, .inl (cy4, 100, .inl f4)), (rv, .inr (5, [.int (nI w), .int (nI h), .ref q1, .ref q2, .ref q3, .ref q4, .ref q5, .ref q6])), (q5, .inl (cy5, 100, .inl g5_2)), (q6, .inl (cy6, 100, .inl f6))] := hD
      have hw_4 : r_3 = 0 ∨ r_3 = 1 := hw
      refine lv_if_eq (tgt := 49) hx hb dX3_breakMarked_37 (by decide) (fun c_5 => ?_) (fun c_5 => ?_)
      · skip
        refine lv_iinc (v := nI (i + 1)) (lv' := [(3, .int (nI (i + 1))), (0, .ref h0), (1, .int 0), (2, .int (nI j))]) hx hb dX3_breakMarked_49 hl (k := 3) rfl (nI_add i 1) (by decide) rfl (fun ls hl => ?_)
        refine lv_goto (tgt := 17) hx hb dX3_breakMarked_52 (by decide) ?_
        exact ih g5_2 (i + 1) (by omega) (by omega) (by omega) (by omega) (by omega) H locs (hP.sub [0, 2, 1, 3, 4] rfl) (hD.sub [0, 2, 1, 3, 4] (by decide) rfl) hS ls (lv_sub hl [1, 2, 3, 0] rfl)
      · skip
        refine lv_iload_n hx hb dX3_breakMarked_40 rfl (lv_at hl 1 rfl) ?_
        refine lv_aload_n hx hb dX3_breakMarked_41 rfl (lv_at hl 0 rfl) ?_
        refine lv_iload_n hx hb dX3_breakMarked_42 rfl (lv_at hl 3 rfl) ?_
        refine lv_iload_n hx hb dX3_breakMarked_43 rfl (lv_at hl 2 rfl) ?_
        refine mc_Vi (rest := [.int 0]) (wr := [(q5, .inl (cy5, 100, .inl g5_2)), (q6, .inl (cy6, 100, .inl f6))]) F hK hP hD hS hA (c_sinkAt0 l D h0 cu rv bt q1 q2 q3 q4 q5 q6 cy4 f4 w h (nI i) (nI j) ho fe (by omega) (by omega)) ⟨gk_X3_179.1, gk_X3_179.2, Nat.le_of_ble_eq_true rfl, Nat.le_of_ble_eq_true rfl⟩ [0, 2, 1] [3, 4] [0] ⟨rfl, rfl, rfl, rfl, by decide⟩ rfl xT_move (fun _ _ _ => trivial) 0 rfl rfl rfl hl.1 rfl (Nat.le_of_ble_eq_true rfl) dX3_breakMarked_44 ⟨Nat.le_of_ble_eq_true rfl, Nat.le_of_ble_eq_true rfl⟩ (fun r_6 _ H locs hw hK1 hP hD hS => ?_)
        have hP : va_P D vwCl [(q5, .inl (cy5, 100, .inl g5_2)), (q6, .inl (cy6, 100, .inl f6)), (h0, .inr (3, [.ref cu, .ref rv, .ref bt, .int 0, .int ho, .int fe])), (rv, .inr (5, [.int (nI w), .int (nI h), .ref q1, .ref q2, .ref q3, .ref q4, .ref q5, .ref q6])), (q4, .inl (cy4, 100, .inl f4))] H := hP
        have hD : va_D A [(q5, .inl (cy5, 100, .inl g5_2)), (q6, .inl (cy6, 100, .inl f6)), (h0, .inr (3, [.ref cu, .ref rv, .ref bt, .int 0, .int ho, .int fe])), (rv, .inr (5, [.int (nI w), .int (nI h), .ref q1, .ref q2, .ref q3, .ref q4, .ref q5, .ref q6])), (q4, .inl (cy4, 100, .inl f4))] := hD
        have hw_7 : r_6 = 0 := hw
        obtain rfl : r_6 = 0 := hw_7
        refine lv_iadd hx hb dX3_breakMarked_47 ?_
        refine lv_topi (fun z_8 ez_8 => ?_)
        obtain rfl : z_8 = (0 : Int32) := ez_8.trans (by decide)
        refine lv_istore_n (lv' := [(1, .int 0), (0, .ref h0), (2, .int (nI j)), (3, .int (nI i))]) hx hb dX3_breakMarked_48 rfl hl (by decide) rfl (fun ls hl => ?_)
        refine lv_iinc (v := nI (i + 1)) (lv' := [(3, .int (nI (i + 1))), (1, .int 0), (0, .ref h0), (2, .int (nI j))]) hx hb dX3_breakMarked_49 hl (k := 3) rfl (nI_add i 1) (by decide) rfl (fun ls hl => ?_)
        refine lv_goto (tgt := 17) hx hb dX3_breakMarked_52 (by decide) ?_
        exact ih g5_2 (i + 1) (by omega) (by omega) (by omega) (by omega) (by omega) H locs (hP.sub [2, 3, 4, 0, 1] rfl) (hD.sub [2, 3, 4, 0, 1] (by decide) rfl) hS ls (lv_sub hl [2, 1, 3, 0] rfl)
theorem dX3_breakMarked_4 : decode cX3_breakMarked 4 = .ok (.iload_n 2, 1) := by decide +kernel
theorem dX3_breakMarked_5 : decode cX3_breakMarked 5 = .ok (.aload_n 0, 1) := by decide +kernel
theorem dX3_breakMarked_6 : decode cX3_breakMarked 6 = .ok (.getfield 21, 3) := by decide +kernel
theorem kw_1_147 : Cond.fieldLink RX3 142 "IceFair$River" "height" "I" ∈ gw := gw_t1 (List.mem_of_getElem? (i := 147) (by decide +kernel)) (by decide +kernel)
theorem dX3_breakMarked_9 : decode cX3_breakMarked 9 = .ok (.getfield 142, 3) := by decide +kernel
theorem dX3_breakMarked_12 : decode cX3_breakMarked 12 = .ok (.if_icmp .ge 49, 3) := by decide +kernel
theorem dX3_breakMarked_15 : decode cX3_breakMarked 15 = .ok (.iconst 0, 1) := by decide +kernel
theorem dX3_breakMarked_16 : decode cX3_breakMarked 16 = .ok (.istore_n 3, 1) := by decide +kernel
theorem dX3_breakMarked_55 : decode cX3_breakMarked 55 = .ok (.iinc 2 1, 3) := by decide +kernel
theorem dX3_breakMarked_58 : decode cX3_breakMarked 58 = .ok (.goto (-54), 3) := by decide +kernel
set_option maxHeartbeats 4000000 in
set_option maxRecDepth 100000 in
theorem lp_break_out {p : Program} {l : Launch} {e : Env} {s : State} {m : MethodId} {args : Array Value} {below : List Frame} {meth : Method} {c : Code} {Q : State → Prop} {A : Nat → Prop} {D : va_G} (F : mFix p s m args c cX3_breakMarked 4 RX3) (hA : ∀ q, s.heap.size ≤ q → A q) (h0 : Nat) (cu : Nat) (rv : Nat) (bt : Nat) (q1 : Nat) (q2 : Nat) (q3 : Nat) (q4 : Nat) (q5 : Nat) (q6 : Nat) (cy4 : ClassId) (cy5 : ClassId) (cy6 : ClassId) (f4 : Nat → Int32) (f6 : Nat → Int32) (w : Nat) (h : Nat) (ho : Int32) (fe : Int32) (hK : va_K D vwCl [(cy4, .int), (cy5, .boolean), (cy6, .boolean)] s)
    (kx_61 : ∀ (g5 : Nat → Int32), ∀ (H : Heap) (locs : List Loc), va_P D vwCl [(h0, .inr (3, [.ref cu, .ref rv, .ref bt, .int 0, .int ho, .int fe])), (rv, .inr (5, [.int (nI w), .int (nI h), .ref q1, .ref q2, .ref q3, .ref q4, .ref q5, .ref q6])), (q4, .inl (cy4, 100, .inl f4)), (q5, .inl (cy5, 100, .inl g5)), (q6, .inl (cy6, 100, .inl f6))] H → va_D A [(h0, .inr (3, [.ref cu, .ref rv, .ref bt, .int 0, .int ho, .int fe])), (rv, .inr (5, [.int (nI w), .int (nI h), .ref q1, .ref q2, .ref q3, .ref q4, .ref q5, .ref q6])), (q4, .inl (cy4, 100, .inl f4)), (q5, .inl (cy5, 100, .inl g5)), (q6, .inl (cy6, 100, .inl f6))] → va_S A s.heap H locs → ∀ ls : Array Slot, lv_has ls 4 [(1, .int 0)] → W p l e ({ frames := 4, cells := 0, slots := 0, locals := 92 }) s m args below meth c H locs 0 0 Q (F0 m 61 ls [])) :
    ∀ n : Nat, ∀ (g5 : Nat → Int32) (j : Nat), (j ≤ h) → (w ≤ 10) → (h ≤ 10) → (h - j) < n → ∀ (H : Heap) (locs : List Loc), va_P D vwCl [(h0, .inr (3, [.ref cu, .ref rv, .ref bt, .int 0, .int ho, .int fe])), (rv, .inr (5, [.int (nI w), .int (nI h), .ref q1, .ref q2, .ref q3, .ref q4, .ref q5, .ref q6])), (q4, .inl (cy4, 100, .inl f4)), (q5, .inl (cy5, 100, .inl g5)), (q6, .inl (cy6, 100, .inl f6))] H → va_D A [(h0, .inr (3, [.ref cu, .ref rv, .ref bt, .int 0, .int ho, .int fe])), (rv, .inr (5, [.int (nI w), .int (nI h), .ref q1, .ref q2, .ref q3, .ref q4, .ref q5, .ref q6])), (q4, .inl (cy4, 100, .inl f4)), (q5, .inl (cy5, 100, .inl g5)), (q6, .inl (cy6, 100, .inl f6))] → va_S A s.heap H locs → ∀ ls : Array Slot, lv_has ls 4 [(0, .ref h0), (1, .int 0), (2, .int (nI j))] → W p l e ({ frames := 4, cells := 0, slots := 0, locals := 92 }) s m args below meth c H locs 0 0 Q (F0 m 4 ls []) := by
  intro n
  induction n with
  | zero => intro g5 j b1 h3 h4 hn; exact absurd hn (Nat.not_lt_zero _)
  | succ n ih =>
    intro g5 j b1 h3 h4 hn H locs hP hD hS ls hl
    obtain ⟨hx, hb, hml, hown, hts⟩ := id F
    refine lv_iload_n hx hb dX3_breakMarked_4 rfl (lv_at hl 2 rfl) ?_
    refine lv_aload_n hx hb dX3_breakMarked_5 rfl (lv_at hl 0 rfl) ?_
    refine va_get (D := D) (ci := 3) (v := .ref rv) (C := RX3) (T := TX3) (N := 6) hx hb hts inG_X3 hown hK hP 0 rfl rfl 1 (by decide) (hts _ kw_1_219) (fun _ h9 => h9) rfl dX3_breakMarked_6 ?_
    refine va_get (D := D) (ci := 5) (v := .int (nI h)) (C := RX6) (T := TX6) (N := 8) hx hb hts inG_X6 hown hK hP 1 rfl rfl 1 (by decide) (hts _ kw_1_147) (fun _ h9 => h9) rfl dX3_breakMarked_9 ?_
    refine lv_icmp_ge (tgt := 61) hx hb dX3_breakMarked_12 (by decide) (fun c_1 => ?_) (fun c_1 => ?_)
    · skip
      have c_1n : h ≤ j := (nI_leI (by omega) (by omega)).mp c_1
      have c_1 := Int32.not_lt.mpr c_1
      exact kx_61 g5  H locs (hP.sub [0, 1, 2, 3, 4] rfl) (hD.sub [0, 1, 2, 3, 4] (by decide) rfl) hS ls (lv_sub hl [1] rfl)
    · skip
      have c_1n : j < h := nb_le (by omega) (by omega) c_1
      have c_1 := Int32.not_le.mp c_1
      refine lv_iconst (v := 0) hx hb dX3_breakMarked_15 (by decide) ?_
      refine lv_istore_n (lv' := [(3, .int 0), (0, .ref h0), (1, .int 0), (2, .int (nI j))]) hx hb dX3_breakMarked_16 rfl hl (by decide) rfl (fun ls hl => ?_)
      refine lp_break_in F hA h0 cu rv bt q1 q2 q3 q4 q5 q6 cy4 cy5 cy6 f4 f6 w h ho fe j (hK.sub [0, 1, 2] rfl) (fun g5_2  H locs hP hD hS ls hl => ?_) _ g5 0 (by omega) (by omega) (by omega) (by omega) (Nat.lt_succ_self _) _ _ (hP.sub [0, 1, 2, 3, 4] rfl) (hD.sub [0, 1, 2, 3, 4] (by decide) rfl) hS ls (lv_sub hl [1, 2, 3, 0] rfl)
      refine lv_iinc (v := nI (j + 1)) (lv' := [(2, .int (nI (j + 1))), (0, .ref h0), (1, .int 0)]) hx hb dX3_breakMarked_55 hl (k := 2) rfl (nI_add j 1) (by decide) rfl (fun ls hl => ?_)
      refine lv_goto (tgt := 4) hx hb dX3_breakMarked_58 (by decide) ?_
      exact ih g5_2 (j + 1) (by omega) (by omega) (by omega) (by omega) H locs (hP.sub [0, 1, 2, 3, 4] rfl) (hD.sub [0, 1, 2, 3, 4] (by decide) rfl) hS ls (lv_sub hl [1, 2, 0] rfl)
theorem dX3_breakMarked_0 : decode cX3_breakMarked 0 = .ok (.iconst 0, 1) := by decide +kernel
theorem dX3_breakMarked_1 : decode cX3_breakMarked 1 = .ok (.istore_n 1, 1) := by decide +kernel
theorem dX3_breakMarked_2 : decode cX3_breakMarked 2 = .ok (.iconst 0, 1) := by decide +kernel
theorem dX3_breakMarked_3 : decode cX3_breakMarked 3 = .ok (.istore_n 2, 1) := by decide +kernel
theorem dX3_breakMarked_61 : decode cX3_breakMarked 61 = .ok (.iload_n 1, 1) := by decide +kernel
theorem dX3_breakMarked_62 : decode cX3_breakMarked 62 = .ok (.ireturn, 1) := by decide +kernel
set_option maxHeartbeats 4000000 in
set_option maxRecDepth 100000 in
theorem c_breakMarked0 (l : Launch) (D : va_G) (h0 : Nat) (cu : Nat) (rv : Nat) (bt : Nat) (q1 : Nat) (q2 : Nat) (q3 : Nat) (q4 : Nat) (q5 : Nat) (q6 : Nat) (cy4 : ClassId) (cy5 : ClassId) (cy6 : ClassId) (f4 : Nat → Int32) (f6 : Nat → Int32) (w : Nat) (h : Nat) (ho : Int32) (fe : Int32) (f5 : Nat → Int32) (h3 : w ≤ 10) (h4 : h ≤ 10) : cI l yX3_breakMarked (.code yX3_breakMarked cX3_breakMarked 4 (some .int)) ({ frames := 4, cells := 0, slots := 0, locals := 92 }) D [(cy4, .int), (cy5, .boolean), (cy6, .boolean)] [(h0, .inr (3, [.ref cu, .ref rv, .ref bt, .int 0, .int ho, .int fe])), (rv, .inr (5, [.int (nI w), .int (nI h), .ref q1, .ref q2, .ref q3, .ref q4, .ref q5, .ref q6])), (q4, .inl (cy4, 100, .inl f4)), (q5, .inl (cy5, 100, .inl f5)), (q6, .inl (cy6, 100, .inl f6))] xT [.ref h0] (S := Nat → Int32) (fun r u => match u with | g5 => r = 0) (fun u => match u with | g5 => []) (fun u => match u with | g5 => [(h0, .inr (3, [.ref cu, .ref rv, .ref bt, .int 0, .int ho, .int fe])), (rv, .inr (5, [.int (nI w), .int (nI h), .ref q1, .ref q2, .ref q3, .ref q4, .ref q5, .ref q6])), (q4, .inl (cy4, 100, .inl f4)), (q5, .inl (cy5, 100, .inl g5)), (q6, .inl (cy6, 100, .inl f6))]) := by
  intro sz
  refine Met.ofW (cc := cX3_breakMarked) (maxL := 4) (ret := (some .int)) (by decide) rfl ?_
  intro p e s m args below meth c s₁ B hml hv
  obtain ⟨rfl, hsz, hP, hK, hD0, hX⟩ := hv
  have hx := B.exec
  have hb := B.bytes
  have hr := B.returns
  have hts0 := atoms_spec (ws := .code yX3_breakMarked cX3_breakMarked 4 (some .int) :: gw) B.pre
  have hts := fun (w : Cond) (h : w ∈ gw) => hts0 w (List.mem_cons_of_mem _ h)
  have hown : s.vm.findClass RX3 = some m.cls := findClass_of_methodNamed B.named
  have hlocks := B.notSynchronized
  have F : mFix p s m _ c cX3_breakMarked 4 RX3 := ⟨hx, hb, hml, hown, hts⟩
  subst hsz
  have hD := hD0.self (sz := s.heap.size)
  generalize hAe : va_A [(h0, .inr (3, [.ref cu, .ref rv, .ref bt, .int 0, .int ho, .int fe])), (rv, .inr (5, [.int (nI w), .int (nI h), .ref q1, .ref q2, .ref q3, .ref q4, .ref q5, .ref q6])), (q4, .inl (cy4, 100, .inl f4)), (q5, .inl (cy5, 100, .inl f5)), (q6, .inl (cy6, 100, .inl f6))] s.heap.size = A at hD hX ⊢
  have hA : ∀ q : Nat, s.heap.size ≤ q → A q := fun q h => by rw [← hAe]; exact Or.inr h
  have hS : va_S A s.heap s.heap [] := va_S.rf
  have hl := lv_entry ([.ref h0]) (n := 4) (Nat.le_of_ble_eq_true rfl)
  rw [lg_entry_eq]
  generalize (lg_sl ([.ref h0]) ++ List.replicate (4 - (lg_sl ([.ref h0])).length) Slot.unset).toArray = ls at hl ⊢
  have hl : lv_has ls 4 [(0, .ref h0)] := hl
  have hP : va_P D vwCl [(h0, .inr (3, [.ref cu, .ref rv, .ref bt, .int 0, .int ho, .int fe])), (rv, .inr (5, [.int (nI w), .int (nI h), .ref q1, .ref q2, .ref q3, .ref q4, .ref q5, .ref q6])), (q4, .inl (cy4, 100, .inl f4)), (q5, .inl (cy5, 100, .inl f5)), (q6, .inl (cy6, 100, .inl f6))] s.heap := hP
  refine lv_iconst (v := 0) hx hb dX3_breakMarked_0 (by decide) ?_
  refine lv_istore_n (lv' := [(1, .int 0), (0, .ref h0)]) hx hb dX3_breakMarked_1 rfl hl (by decide) rfl (fun ls hl => ?_)
  refine lv_iconst (v := 0) hx hb dX3_breakMarked_2 (by decide) ?_
  refine lv_istore_n (lv' := [(2, .int 0), (1, .int 0), (0, .ref h0)]) hx hb dX3_breakMarked_3 rfl hl (by decide) rfl (fun ls hl => ?_)
  refine lp_break_out F hA h0 cu rv bt q1 q2 q3 q4 q5 q6 cy4 cy5 cy6 f4 f6 w h ho fe (hK.sub [0, 1, 2] rfl) (fun g5_1  H locs hP hD hS ls hl => ?_) _ f5 0 (by omega) (by omega) (by omega) (Nat.lt_succ_self _) _ _ (hP.sub [0, 1, 2, 3, 4] rfl) (hD.sub [0, 1, 2, 3, 4] (by decide) rfl) hS ls (lv_sub hl [2, 1, 0] rfl)
  refine lv_iload_n hx hb dX3_breakMarked_61 rfl (lv_at hl 0 rfl) ?_
  have hP9 := hP.sub (ws' := [(h0, .inr (3, [.ref cu, .ref rv, .ref bt, .int 0, .int ho, .int fe])), (rv, .inr (5, [.int (nI w), .int (nI h), .ref q1, .ref q2, .ref q3, .ref q4, .ref q5, .ref q6])), (q4, .inl (cy4, 100, .inl f4)), (q5, .inl (cy5, 100, .inl g5_1)), (q6, .inl (cy6, 100, .inl f6))]) [0, 1, 2, 3, 4] rfl
  have hD9 := hD.sub (ws' := [(h0, .inr (3, [.ref cu, .ref rv, .ref bt, .int 0, .int ho, .int fe])), (rv, .inr (5, [.int (nI w), .int (nI h), .ref q1, .ref q2, .ref q3, .ref q4, .ref q5, .ref q6])), (q4, .inl (cy4, 100, .inl f4)), (q5, .inl (cy5, 100, .inl g5_1)), (q6, .inl (cy6, 100, .inl f6))]) [0, 1, 2, 3, 4] (by decide) rfl
  have hK9 := hK.sub (tys' := []) [] rfl
  refine W.widen (k := 0) (n := 0) (by decide) (by decide) ?_
  exact W.iret (v := 0) hx hb hr (fun t ht hW => ⟨⟨0, g5_1, rfl, rfl, by rw [ht]; exact hP9, va_K.moved hW.alike hK9, hD9⟩, hS.F ht⟩) hS.2.2 dX3_breakMarked_62
theorem dX3_passHour_39 : decode cX3_passHour 39 = .ok (.iload_n 3, 1) := by decide +kernel
theorem dX3_passHour_40 : decode cX3_passHour 40 = .ok (.aload_n 0, 1) := by decide +kernel
theorem dX3_passHour_41 : decode cX3_passHour 41 = .ok (.getfield 21, 3) := by decide +kernel
theorem dX3_passHour_44 : decode cX3_passHour 44 = .ok (.getfield 145, 3) := by decide +kernel
theorem dX3_passHour_47 : decode cX3_passHour 47 = .ok (.if_icmp .ge 26, 3) := by decide +kernel
theorem dX3_passHour_50 : decode cX3_passHour 50 = .ok (.aload_n 0, 1) := by decide +kernel
theorem dX3_passHour_51 : decode cX3_passHour 51 = .ok (.getfield 21, 3) := by decide +kernel
theorem dX3_passHour_54 : decode cX3_passHour 54 = .ok (.iload_n 3, 1) := by decide +kernel
theorem dX3_passHour_55 : decode cX3_passHour 55 = .ok (.iload_n 2, 1) := by decide +kernel
theorem dX3_passHour_56 : decode cX3_passHour 56 = .ok (.iload_n 1, 1) := by decide +kernel
theorem dX3_passHour_57 : decode cX3_passHour 57 = .ok (.aload_n 0, 1) := by decide +kernel
theorem dX3_passHour_58 : decode cX3_passHour 58 = .ok (.iload_n 3, 1) := by decide +kernel
theorem dX3_passHour_59 : decode cX3_passHour 59 = .ok (.iload_n 2, 1) := by decide +kernel
theorem kw_3_138 : Cond.methodLink RX3 148 yX3_meltAt ∈ gw := gw_t3 (List.mem_of_getElem? (i := 138) (by decide +kernel)) (by decide +kernel)
theorem kw_3_140 : Cond.instanceMethod yX3_meltAt ∈ gw := gw_t3 (List.mem_of_getElem? (i := 140) (by decide +kernel)) (by decide +kernel)
theorem ks_1_11 : Cond.selects RX3 yX3_meltAt yX3_meltAt ∈ gw := gw_s (y := yX3_meltAt) (n := 6) (List.mem_append_left _ (List.mem_of_getElem? (i := 11) (by decide +kernel)))
theorem kw_3_141 : Cond.code yX3_meltAt cX3_meltAt 4 (some .int) ∈ gw := gw_t3 (List.mem_of_getElem? (i := 141) (by decide +kernel)) (by decide +kernel)
theorem gk_X3_148 : GoodIn gw (wsV RX3 148 RX3 yX3_meltAt (.code yX3_meltAt cX3_meltAt 4 (some .int) :: gw)) ∧ (yX3_meltAt.cls = RX3 ∧ yX3_meltAt.cls ≠ "java/lang/invoke/MethodHandle" ∧ yX3_meltAt.cls ≠ "java/lang/invoke/VarHandle" ∧ (parseMethodDescriptor yX3_meltAt.desc).map (fun d => d.parameters.length) = some 2) := ⟨gi_V kw_3_138 kw_3_140 ks_1_11 kw_1_6 kw_3_141, by decide +kernel⟩
theorem dX3_passHour_60 : decode cX3_passHour 60 = .ok (.invokevirtual 148, 3) := by decide +kernel
theorem dX3_passHour_63 : decode cX3_passHour 63 = .ok (.isub, 1) := by decide +kernel
theorem kw_3_159 : Cond.methodLink RX3 151 yX6_thicken ∈ gw := gw_t3 (List.mem_of_getElem? (i := 159) (by decide +kernel)) (by decide +kernel)
theorem kw_3_160 : Cond.instanceMethod yX6_thicken ∈ gw := gw_t3 (List.mem_of_getElem? (i := 160) (by decide +kernel)) (by decide +kernel)
theorem kw_3_161 : Cond.selects RX6 yX6_thicken yX6_thicken ∈ gw := gw_t3 (List.mem_of_getElem? (i := 161) (by decide +kernel)) (by decide +kernel)
theorem kw_3_162 : Cond.code yX6_thicken cX6_thicken 5 none ∈ gw := gw_t3 (List.mem_of_getElem? (i := 162) (by decide +kernel)) (by decide +kernel)
theorem gk_X3_151 : GoodIn gw (wsV RX3 151 RX6 yX6_thicken (.code yX6_thicken cX6_thicken 5 none :: gw)) ∧ (yX6_thicken.cls = RX6 ∧ yX6_thicken.cls ≠ "java/lang/invoke/MethodHandle" ∧ yX6_thicken.cls ≠ "java/lang/invoke/VarHandle" ∧ (parseMethodDescriptor yX6_thicken.desc).map (fun d => d.parameters.length) = some 3) := ⟨gi_V kw_3_159 kw_3_160 kw_3_161 kw_1_7 kw_3_162, by decide +kernel⟩
theorem dX3_passHour_64 : decode cX3_passHour 64 = .ok (.invokevirtual 151, 3) := by decide +kernel
theorem dX3_passHour_67 : decode cX3_passHour 67 = .ok (.iinc 3 1, 3) := by decide +kernel
theorem dX3_passHour_70 : decode cX3_passHour 70 = .ok (.goto (-31), 3) := by decide +kernel
set_option maxHeartbeats 4000000 in
set_option maxRecDepth 100000 in
theorem lp_hour_in {p : Program} {l : Launch} {e : Env} {s : State} {m : MethodId} {args : Array Value} {below : List Frame} {meth : Method} {c : Code} {Q : State → Prop} {A : Nat → Prop} {D : va_G} (F : mFix p s m args c cX3_passHour 4 RX3) (hA : ∀ q, s.heap.size ≤ q → A q) (h0 : Nat) (cu : Nat) (rv : Nat) (bt : Nat) (cu1 : Nat) (cu2 : Nat) (cu3 : Nat) (cu4 : Nat) (q1 : Nat) (q2 : Nat) (q3 : Nat) (q4 : Nat) (q5 : Nat) (q6 : Nat) (cc1 : ClassId) (cy1 : ClassId) (cy2 : ClassId) (cy3 : ClassId) (cy4 : ClassId) (cy5 : ClassId) (cy6 : ClassId) (f3 : Nat → Int32) (f4 : Nat → Int32) (w : Nat) (h : Nat) (fe : Int32) (co : Int32) (ho : Int32) (g5 : Nat → Int32) (g6 : Nat → Int32) (j : Nat) (hK : va_K D vwCl [(cc1, .int), (cy1, .int), (cy2, .int), (cy3, .int), (cy4, .int), (cy5, .boolean), (cy6, .boolean)] s)
    (kx_73 : ∀ (g1 : Nat → Int32) (g2 : Nat → Int32), ∀ (H : Heap) (locs : List Loc), va_P D vwCl [(h0, .inr (3, [.ref cu, .ref rv, .ref bt, .int 0, .int ho, .int fe])), (cu, .inr (1, [.ref cu1, .ref cu2, .ref cu3, .ref cu4, .int 0, .int 0])), (cu1, .inl (cc1, 8, .inl uF)), (rv, .inr (5, [.int (nI w), .int (nI h), .ref q1, .ref q2, .ref q3, .ref q4, .ref q5, .ref q6])), (q1, .inl (cy1, 100, .inl g1)), (q2, .inl (cy2, 100, .inl g2)), (q3, .inl (cy3, 100, .inl f3)), (q4, .inl (cy4, 100, .inl f4)), (q5, .inl (cy5, 100, .inl g5)), (q6, .inl (cy6, 100, .inl g6))] H → va_D A [(h0, .inr (3, [.ref cu, .ref rv, .ref bt, .int 0, .int ho, .int fe])), (cu, .inr (1, [.ref cu1, .ref cu2, .ref cu3, .ref cu4, .int 0, .int 0])), (cu1, .inl (cc1, 8, .inl uF)), (rv, .inr (5, [.int (nI w), .int (nI h), .ref q1, .ref q2, .ref q3, .ref q4, .ref q5, .ref q6])), (q1, .inl (cy1, 100, .inl g1)), (q2, .inl (cy2, 100, .inl g2)), (q3, .inl (cy3, 100, .inl f3)), (q4, .inl (cy4, 100, .inl f4)), (q5, .inl (cy5, 100, .inl g5)), (q6, .inl (cy6, 100, .inl g6))] → va_S A s.heap H locs → ∀ ls : Array Slot, lv_has ls 4 [(0, .ref h0), (1, .int co), (2, .int (nI j))] → W p l e ({ frames := 5, cells := 0, slots := 0, locals := 115 }) s m args below meth c H locs 0 0 Q (F0 m 73 ls [])) :
    ∀ n : Nat, ∀ (g1 : Nat → Int32) (g2 : Nat → Int32) (i : Nat), (i ≤ w) → (j < h) → (w ≤ 10) → (h ≤ 10) → (w - i) < n → ∀ (H : Heap) (locs : List Loc), va_P D vwCl [(h0, .inr (3, [.ref cu, .ref rv, .ref bt, .int 0, .int ho, .int fe])), (cu, .inr (1, [.ref cu1, .ref cu2, .ref cu3, .ref cu4, .int 0, .int 0])), (cu1, .inl (cc1, 8, .inl uF)), (rv, .inr (5, [.int (nI w), .int (nI h), .ref q1, .ref q2, .ref q3, .ref q4, .ref q5, .ref q6])), (q1, .inl (cy1, 100, .inl g1)), (q2, .inl (cy2, 100, .inl g2)), (q3, .inl (cy3, 100, .inl f3)), (q4, .inl (cy4, 100, .inl f4)), (q5, .inl (cy5, 100, .inl g5)), (q6, .inl (cy6, 100, .inl g6))] H → va_D A [(h0, .inr (3, [.ref cu, .ref rv, .ref bt, .int 0, .int ho, .int fe])), (cu, .inr (1, [.ref cu1, .ref cu2, .ref cu3, .ref cu4, .int 0, .int 0])), (cu1, .inl (cc1, 8, .inl uF)), (rv, .inr (5, [.int (nI w), .int (nI h), .ref q1, .ref q2, .ref q3, .ref q4, .ref q5, .ref q6])), (q1, .inl (cy1, 100, .inl g1)), (q2, .inl (cy2, 100, .inl g2)), (q3, .inl (cy3, 100, .inl f3)), (q4, .inl (cy4, 100, .inl f4)), (q5, .inl (cy5, 100, .inl g5)), (q6, .inl (cy6, 100, .inl g6))] → va_S A s.heap H locs → ∀ ls : Array Slot, lv_has ls 4 [(0, .ref h0), (1, .int co), (2, .int (nI j)), (3, .int (nI i))] → W p l e ({ frames := 5, cells := 0, slots := 0, locals := 115 }) s m args below meth c H locs 0 0 Q (F0 m 39 ls []) := by
  intro n
  induction n with
  | zero => intro g1 g2 i b1 b2 h3 h4 hn; exact absurd hn (Nat.not_lt_zero _)
  | succ n ih =>
    intro g1 g2 i b1 b2 h3 h4 hn H locs hP hD hS ls hl
    obtain ⟨hx, hb, hml, hown, hts⟩ := id F
    refine lv_iload_n hx hb dX3_passHour_39 rfl (lv_at hl 3 rfl) ?_
    refine lv_aload_n hx hb dX3_passHour_40 rfl (lv_at hl 0 rfl) ?_
    refine va_get (D := D) (ci := 3) (v := .ref rv) (C := RX3) (T := TX3) (N := 6) hx hb hts inG_X3 hown hK hP 0 rfl rfl 1 (by decide) (hts _ kw_1_219) (fun _ h9 => h9) rfl dX3_passHour_41 ?_
    refine va_get (D := D) (ci := 5) (v := .int (nI w)) (C := RX6) (T := TX6) (N := 8) hx hb hts inG_X6 hown hK hP 3 rfl rfl 0 (by decide) (hts _ kw_1_144) (fun _ h9 => h9) rfl dX3_passHour_44 ?_
    refine lv_icmp_ge (tgt := 73) hx hb dX3_passHour_47 (by decide) (fun c_1 => ?_) (fun c_1 => ?_)
    · skip
      have c_1n : w ≤ i := (nI_leI (by omega) (by omega)).mp c_1
      have c_1 := Int32.not_lt.mpr c_1
      exact kx_73 g1 g2  H locs (hP.sub [0, 1, 2, 3, 4, 5, 6, 7, 8, 9] rfl) (hD.sub [0, 1, 2, 3, 4, 5, 6, 7, 8, 9] (by decide) rfl) hS ls (lv_sub hl [0, 1, 2] rfl)
    · skip
      have c_1n : i < w := nb_le (by omega) (by omega) c_1
      have c_1 := Int32.not_le.mp c_1
      refine lv_aload_n hx hb dX3_passHour_50 rfl (lv_at hl 0 rfl) ?_
      refine va_get (D := D) (ci := 3) (v := .ref rv) (C := RX3) (T := TX3) (N := 6) hx hb hts inG_X3 hown hK hP 0 rfl rfl 1 (by decide) (hts _ kw_1_219) (fun _ h9 => h9) rfl dX3_passHour_51 ?_
      refine lv_iload_n hx hb dX3_passHour_54 rfl (lv_at hl 3 rfl) ?_
      refine lv_iload_n hx hb dX3_passHour_55 rfl (lv_at hl 2 rfl) ?_
      refine lv_iload_n hx hb dX3_passHour_56 rfl (lv_at hl 1 rfl) ?_
      refine lv_aload_n hx hb dX3_passHour_57 rfl (lv_at hl 0 rfl) ?_
      refine lv_iload_n hx hb dX3_passHour_58 rfl (lv_at hl 3 rfl) ?_
      refine lv_iload_n hx hb dX3_passHour_59 rfl (lv_at hl 2 rfl) ?_
      refine mc_Vi (rest := [.int co, .int (nI j), .int (nI i), .ref rv]) (wr := [(q1, .inl (cy1, 100, .inl g1)), (q2, .inl (cy2, 100, .inl g2)), (q3, .inl (cy3, 100, .inl f3)), (q5, .inl (cy5, 100, .inl g5)), (q6, .inl (cy6, 100, .inl g6))]) F hK hP hD hS hA (c_meltAt0 l D h0 cu rv bt cu1 cu2 cu3 cu4 q1 q2 q3 q4 q5 q6 cc1 cy4 f4 w h (nI i) (nI j) ho fe (by omega) (by omega)) ⟨gk_X3_148.1, gk_X3_148.2, Nat.le_of_ble_eq_true rfl, Nat.le_of_ble_eq_true rfl⟩ [0, 1, 2, 3, 7] [4, 5, 6, 8, 9] [0, 4] ⟨rfl, rfl, rfl, rfl, by decide⟩ rfl xT_move (fun _ _ _ => trivial) 0 rfl rfl rfl hl.1 rfl (Nat.le_of_ble_eq_true rfl) dX3_passHour_60 ⟨Nat.le_of_ble_eq_true rfl, Nat.le_of_ble_eq_true rfl⟩ (fun r_2 _ H locs hw hK1 hP hD hS => ?_)
      have hP : va_P D vwCl [(q1, .inl (cy1, 100, .inl g1)), (q2, .inl (cy2, 100, .inl g2)), (q3, .inl (cy3, 100, .inl f3)), (q5, .inl (cy5, 100, .inl g5)), (q6, .inl (cy6, 100, .inl g6)), (h0, .inr (3, [.ref cu, .ref rv, .ref bt, .int 0, .int ho, .int fe])), (cu, .inr (1, [.ref cu1, .ref cu2, .ref cu3, .ref cu4, .int 0, .int 0])), (cu1, .inl (cc1, 8, .inl uF)), (rv, .inr (5, [.int (nI w), .int (nI h), .ref q1, .ref q2, .ref q3, .ref q4, .ref q5, .ref q6])), (q4, .inl (cy4, 100, .inl f4))] H := hP
      have hD : va_D A [(q1, .inl (cy1, 100, .inl g1)), (q2, .inl (cy2, 100, .inl g2)), (q3, .inl (cy3, 100, .inl f3)), (q5, .inl (cy5, 100, .inl g5)), (q6, .inl (cy6, 100, .inl g6)), (h0, .inr (3, [.ref cu, .ref rv, .ref bt, .int 0, .int ho, .int fe])), (cu, .inr (1, [.ref cu1, .ref cu2, .ref cu3, .ref cu4, .int 0, .int 0])), (cu1, .inl (cc1, 8, .inl uF)), (rv, .inr (5, [.int (nI w), .int (nI h), .ref q1, .ref q2, .ref q3, .ref q4, .ref q5, .ref q6])), (q4, .inl (cy4, 100, .inl f4))] := hD
      have hw_3 : r_2 = 0 := hw
      obtain rfl : r_2 = 0 := hw_3
      refine lv_isub hx hb dX3_passHour_63 ?_
      refine lv_topi (fun z_4 ez_4 => ?_)
      refine mc_Vv (rest := []) (wr := [(h0, .inr (3, [.ref cu, .ref rv, .ref bt, .int 0, .int ho, .int fe])), (cu, .inr (1, [.ref cu1, .ref cu2, .ref cu3, .ref cu4, .int 0, .int 0])), (cu1, .inl (cc1, 8, .inl uF))]) F hK hP hD hS hA (c_thicken l D rv q1 q2 q3 q4 q5 q6 cy1 cy2 cy3 cy4 cy5 cy6 g1 g2 f3 f4 g5 g6 w h i j z_4 (by omega) (by omega) (by omega) (by omega)) ⟨gk_X3_151.1, gk_X3_151.2, Nat.le_of_ble_eq_true rfl, Nat.le_of_ble_eq_true rfl⟩ [8, 0, 1, 2, 9, 3, 4] [5, 6, 7] [1, 2, 3, 4, 5, 6] ⟨rfl, rfl, rfl, rfl, by decide⟩ rfl xT_move (fun _ _ _ => trivial) 8 rfl rfl rfl hl.1 rfl (Nat.le_of_ble_eq_true rfl) dX3_passHour_64 ⟨Nat.le_of_ble_eq_true rfl, Nat.le_of_ble_eq_true rfl⟩ (fun u H locs hw hK1 hP hD hS => ?_)
      obtain ⟨g1_5, g2_6⟩ := u
      have hP : va_P D vwCl [(h0, .inr (3, [.ref cu, .ref rv, .ref bt, .int 0, .int ho, .int fe])), (cu, .inr (1, [.ref cu1, .ref cu2, .ref cu3, .ref cu4, .int 0, .int 0])), (cu1, .inl (cc1, 8, .inl uF)), (rv, .inr (5, [.int (nI w), .int (nI h), .ref q1, .ref q2, .ref q3, .ref q4, .ref q5, .ref q6])), (q1, .inl (cy1, 100, .inl g1_5)), (q2, .inl (cy2, 100, .inl g2_6)), (q3, .inl (cy3, 100, .inl f3)), (q4, .inl (cy4, 100, .inl f4)), (q5, .inl (cy5, 100, .inl g5)), (q6, .inl (cy6, 100, .inl g6))] H := hP
      have hD : va_D A [(h0, .inr (3, [.ref cu, .ref rv, .ref bt, .int 0, .int ho, .int fe])), (cu, .inr (1, [.ref cu1, .ref cu2, .ref cu3, .ref cu4, .int 0, .int 0])), (cu1, .inl (cc1, 8, .inl uF)), (rv, .inr (5, [.int (nI w), .int (nI h), .ref q1, .ref q2, .ref q3, .ref q4, .ref q5, .ref q6])), (q1, .inl (cy1, 100, .inl g1_5)), (q2, .inl (cy2, 100, .inl g2_6)), (q3, .inl (cy3, 100, .inl f3)), (q4, .inl (cy4, 100, .inl f4)), (q5, .inl (cy5, 100, .inl g5)), (q6, .inl (cy6, 100, .inl g6))] := hD
      refine lv_iinc (v := nI (i + 1)) (lv' := [(3, .int (nI (i + 1))), (0, .ref h0), (1, .int co), (2, .int (nI j))]) hx hb dX3_passHour_67 hl (k := 3) rfl (nI_add i 1) (by decide) rfl (fun ls hl => ?_)
      refine lv_goto (tgt := 39) hx hb dX3_passHour_70 (by decide) ?_
      exact ih g1_5 g2_6 (i + 1) (by omega) (by omega) (by omega) (by omega) (by omega) H locs (hP.sub [0, 1, 2, 3, 4, 5, 6, 7, 8, 9] rfl) (hD.sub [0, 1, 2, 3, 4, 5, 6, 7, 8, 9] (by decide) rfl) hS ls (lv_sub hl [1, 2, 3, 0] rfl)
theorem dX3_passHour_26 : decode cX3_passHour 26 = .ok (.iload_n 2, 1) := by decide +kernel
theorem dX3_passHour_27 : decode cX3_passHour 27 = .ok (.aload_n 0, 1) := by decide +kernel
theorem dX3_passHour_28 : decode cX3_passHour 28 = .ok (.getfield 21, 3) := by decide +kernel
theorem dX3_passHour_31 : decode cX3_passHour 31 = .ok (.getfield 142, 3) := by decide +kernel
theorem dX3_passHour_34 : decode cX3_passHour 34 = .ok (.if_icmp .ge 45, 3) := by decide +kernel
theorem dX3_passHour_37 : decode cX3_passHour 37 = .ok (.iconst 0, 1) := by decide +kernel
theorem dX3_passHour_38 : decode cX3_passHour 38 = .ok (.istore_n 3, 1) := by decide +kernel
theorem dX3_passHour_73 : decode cX3_passHour 73 = .ok (.iinc 2 1, 3) := by decide +kernel
theorem dX3_passHour_76 : decode cX3_passHour 76 = .ok (.goto (-50), 3) := by decide +kernel
set_option maxHeartbeats 4000000 in
set_option maxRecDepth 100000 in
theorem lp_hour_out {p : Program} {l : Launch} {e : Env} {s : State} {m : MethodId} {args : Array Value} {below : List Frame} {meth : Method} {c : Code} {Q : State → Prop} {A : Nat → Prop} {D : va_G} (F : mFix p s m args c cX3_passHour 4 RX3) (hA : ∀ q, s.heap.size ≤ q → A q) (h0 : Nat) (cu : Nat) (rv : Nat) (bt : Nat) (cu1 : Nat) (cu2 : Nat) (cu3 : Nat) (cu4 : Nat) (q1 : Nat) (q2 : Nat) (q3 : Nat) (q4 : Nat) (q5 : Nat) (q6 : Nat) (cc1 : ClassId) (cy1 : ClassId) (cy2 : ClassId) (cy3 : ClassId) (cy4 : ClassId) (cy5 : ClassId) (cy6 : ClassId) (f3 : Nat → Int32) (f4 : Nat → Int32) (w : Nat) (h : Nat) (fe : Int32) (co : Int32) (ho : Int32) (g5 : Nat → Int32) (g6 : Nat → Int32) (hK : va_K D vwCl [(cc1, .int), (cy1, .int), (cy2, .int), (cy3, .int), (cy4, .int), (cy5, .boolean), (cy6, .boolean)] s)
    (kx_79 : ∀ (g1 : Nat → Int32) (g2 : Nat → Int32), ∀ (H : Heap) (locs : List Loc), va_P D vwCl [(h0, .inr (3, [.ref cu, .ref rv, .ref bt, .int 0, .int ho, .int fe])), (cu, .inr (1, [.ref cu1, .ref cu2, .ref cu3, .ref cu4, .int 0, .int 0])), (cu1, .inl (cc1, 8, .inl uF)), (rv, .inr (5, [.int (nI w), .int (nI h), .ref q1, .ref q2, .ref q3, .ref q4, .ref q5, .ref q6])), (q1, .inl (cy1, 100, .inl g1)), (q2, .inl (cy2, 100, .inl g2)), (q3, .inl (cy3, 100, .inl f3)), (q4, .inl (cy4, 100, .inl f4)), (q5, .inl (cy5, 100, .inl g5)), (q6, .inl (cy6, 100, .inl g6))] H → va_D A [(h0, .inr (3, [.ref cu, .ref rv, .ref bt, .int 0, .int ho, .int fe])), (cu, .inr (1, [.ref cu1, .ref cu2, .ref cu3, .ref cu4, .int 0, .int 0])), (cu1, .inl (cc1, 8, .inl uF)), (rv, .inr (5, [.int (nI w), .int (nI h), .ref q1, .ref q2, .ref q3, .ref q4, .ref q5, .ref q6])), (q1, .inl (cy1, 100, .inl g1)), (q2, .inl (cy2, 100, .inl g2)), (q3, .inl (cy3, 100, .inl f3)), (q4, .inl (cy4, 100, .inl f4)), (q5, .inl (cy5, 100, .inl g5)), (q6, .inl (cy6, 100, .inl g6))] → va_S A s.heap H locs → ∀ ls : Array Slot, lv_has ls 4 [(0, .ref h0), (1, .int co)] → W p l e ({ frames := 5, cells := 0, slots := 0, locals := 115 }) s m args below meth c H locs 0 0 Q (F0 m 79 ls [])) :
    ∀ n : Nat, ∀ (g1 : Nat → Int32) (g2 : Nat → Int32) (j : Nat), (j ≤ h) → (w ≤ 10) → (h ≤ 10) → (h - j) < n → ∀ (H : Heap) (locs : List Loc), va_P D vwCl [(h0, .inr (3, [.ref cu, .ref rv, .ref bt, .int 0, .int ho, .int fe])), (cu, .inr (1, [.ref cu1, .ref cu2, .ref cu3, .ref cu4, .int 0, .int 0])), (cu1, .inl (cc1, 8, .inl uF)), (rv, .inr (5, [.int (nI w), .int (nI h), .ref q1, .ref q2, .ref q3, .ref q4, .ref q5, .ref q6])), (q1, .inl (cy1, 100, .inl g1)), (q2, .inl (cy2, 100, .inl g2)), (q3, .inl (cy3, 100, .inl f3)), (q4, .inl (cy4, 100, .inl f4)), (q5, .inl (cy5, 100, .inl g5)), (q6, .inl (cy6, 100, .inl g6))] H → va_D A [(h0, .inr (3, [.ref cu, .ref rv, .ref bt, .int 0, .int ho, .int fe])), (cu, .inr (1, [.ref cu1, .ref cu2, .ref cu3, .ref cu4, .int 0, .int 0])), (cu1, .inl (cc1, 8, .inl uF)), (rv, .inr (5, [.int (nI w), .int (nI h), .ref q1, .ref q2, .ref q3, .ref q4, .ref q5, .ref q6])), (q1, .inl (cy1, 100, .inl g1)), (q2, .inl (cy2, 100, .inl g2)), (q3, .inl (cy3, 100, .inl f3)), (q4, .inl (cy4, 100, .inl f4)), (q5, .inl (cy5, 100, .inl g5)), (q6, .inl (cy6, 100, .inl g6))] → va_S A s.heap H locs → ∀ ls : Array Slot, lv_has ls 4 [(0, .ref h0), (1, .int co), (2, .int (nI j))] → W p l e ({ frames := 5, cells := 0, slots := 0, locals := 115 }) s m args below meth c H locs 0 0 Q (F0 m 26 ls []) := by
  intro n
  induction n with
  | zero => intro g1 g2 j b1 h3 h4 hn; exact absurd hn (Nat.not_lt_zero _)
  | succ n ih =>
    intro g1 g2 j b1 h3 h4 hn H locs hP hD hS ls hl
    obtain ⟨hx, hb, hml, hown, hts⟩ := id F
    refine lv_iload_n hx hb dX3_passHour_26 rfl (lv_at hl 2 rfl) ?_
    refine lv_aload_n hx hb dX3_passHour_27 rfl (lv_at hl 0 rfl) ?_
    refine va_get (D := D) (ci := 3) (v := .ref rv) (C := RX3) (T := TX3) (N := 6) hx hb hts inG_X3 hown hK hP 0 rfl rfl 1 (by decide) (hts _ kw_1_219) (fun _ h9 => h9) rfl dX3_passHour_28 ?_
    refine va_get (D := D) (ci := 5) (v := .int (nI h)) (C := RX6) (T := TX6) (N := 8) hx hb hts inG_X6 hown hK hP 3 rfl rfl 1 (by decide) (hts _ kw_1_147) (fun _ h9 => h9) rfl dX3_passHour_31 ?_
    refine lv_icmp_ge (tgt := 79) hx hb dX3_passHour_34 (by decide) (fun c_1 => ?_) (fun c_1 => ?_)
    · skip
      have c_1n : h ≤ j := (nI_leI (by omega) (by omega)).mp c_1
      have c_1 := Int32.not_lt.mpr c_1
      exact kx_79 g1 g2  H locs (hP.sub [0, 1, 2, 3, 4, 5, 6, 7, 8, 9] rfl) (hD.sub [0, 1, 2, 3, 4, 5, 6, 7, 8, 9] (by decide) rfl) hS ls (lv_sub hl [0, 1] rfl)
    · skip
      have c_1n : j < h := nb_le (by omega) (by omega) c_1
      have c_1 := Int32.not_le.mp c_1
      refine lv_iconst (v := 0) hx hb dX3_passHour_37 (by decide) ?_
      refine lv_istore_n (lv' := [(3, .int 0), (0, .ref h0), (1, .int co), (2, .int (nI j))]) hx hb dX3_passHour_38 rfl hl (by decide) rfl (fun ls hl => ?_)
      refine lp_hour_in F hA h0 cu rv bt cu1 cu2 cu3 cu4 q1 q2 q3 q4 q5 q6 cc1 cy1 cy2 cy3 cy4 cy5 cy6 f3 f4 w h fe co ho g5 g6 j (hK.sub [0, 1, 2, 3, 4, 5, 6] rfl) (fun g1_2 g2_3  H locs hP hD hS ls hl => ?_) _ g1 g2 0 (by omega) (by omega) (by omega) (by omega) (Nat.lt_succ_self _) _ _ (hP.sub [0, 1, 2, 3, 4, 5, 6, 7, 8, 9] rfl) (hD.sub [0, 1, 2, 3, 4, 5, 6, 7, 8, 9] (by decide) rfl) hS ls (lv_sub hl [1, 2, 3, 0] rfl)
      refine lv_iinc (v := nI (j + 1)) (lv' := [(2, .int (nI (j + 1))), (0, .ref h0), (1, .int co)]) hx hb dX3_passHour_73 hl (k := 2) rfl (nI_add j 1) (by decide) rfl (fun ls hl => ?_)
      refine lv_goto (tgt := 26) hx hb dX3_passHour_76 (by decide) ?_
      exact ih g1_2 g2_3 (j + 1) (by omega) (by omega) (by omega) (by omega) H locs (hP.sub [0, 1, 2, 3, 4, 5, 6, 7, 8, 9] rfl) (hD.sub [0, 1, 2, 3, 4, 5, 6, 7, 8, 9] (by decide) rfl) hS ls (lv_sub hl [1, 2, 0] rfl)
theorem dX3_passHour_83 : decode cX3_passHour 83 = .ok (.iload_n 3, 1) := by decide +kernel
theorem dX3_passHour_84 : decode cX3_passHour 84 = .ok (.bipush 100, 2) := by decide +kernel
theorem dX3_passHour_86 : decode cX3_passHour 86 = .ok (.if_icmp .ge 33, 3) := by decide +kernel
theorem dX3_passHour_89 : decode cX3_passHour 89 = .ok (.aload_n 0, 1) := by decide +kernel
theorem dX3_passHour_90 : decode cX3_passHour 90 = .ok (.getfield 21, 3) := by decide +kernel
theorem dX3_passHour_93 : decode cX3_passHour 93 = .ok (.aload_n 0, 1) := by decide +kernel
theorem dX3_passHour_94 : decode cX3_passHour 94 = .ok (.getfield 12, 3) := by decide +kernel
theorem kw_3_55 : Cond.methodLink RX3 80 yX1_bear ∈ gw := gw_t3 (List.mem_of_getElem? (i := 55) (by decide +kernel)) (by decide +kernel)
theorem kw_3_56 : Cond.instanceMethod yX1_bear ∈ gw := gw_t3 (List.mem_of_getElem? (i := 56) (by decide +kernel)) (by decide +kernel)
theorem kw_3_57 : Cond.selects RX1 yX1_bear yX1_bear ∈ gw := gw_t3 (List.mem_of_getElem? (i := 57) (by decide +kernel)) (by decide +kernel)
theorem kw_3_58 : Cond.code yX1_bear cX1_bear 1 (some .int) ∈ gw := gw_t3 (List.mem_of_getElem? (i := 58) (by decide +kernel)) (by decide +kernel)
theorem gk_X3_80 : GoodIn gw (wsV RX3 80 RX1 yX1_bear (.code yX1_bear cX1_bear 1 (some .int) :: gw)) ∧ (yX1_bear.cls = RX1 ∧ yX1_bear.cls ≠ "java/lang/invoke/MethodHandle" ∧ yX1_bear.cls ≠ "java/lang/invoke/VarHandle" ∧ (parseMethodDescriptor yX1_bear.desc).map (fun d => d.parameters.length) = some 0) := ⟨gi_V kw_3_55 kw_3_56 kw_3_57 kw_1_4 kw_3_58, by decide +kernel⟩
theorem dX3_passHour_97 : decode cX3_passHour 97 = .ok (.invokevirtual 80, 3) := by decide +kernel
theorem kw_3_169 : Cond.methodLink RX3 154 yX6_markBreaking ∈ gw := gw_t3 (List.mem_of_getElem? (i := 169) (by decide +kernel)) (by decide +kernel)
theorem kw_3_170 : Cond.instanceMethod yX6_markBreaking ∈ gw := gw_t3 (List.mem_of_getElem? (i := 170) (by decide +kernel)) (by decide +kernel)
theorem kw_3_171 : Cond.selects RX6 yX6_markBreaking yX6_markBreaking ∈ gw := gw_t3 (List.mem_of_getElem? (i := 171) (by decide +kernel)) (by decide +kernel)
theorem kw_3_172 : Cond.code yX6_markBreaking cX6_markBreaking 7 (some .boolean) ∈ gw := gw_t3 (List.mem_of_getElem? (i := 172) (by decide +kernel)) (by decide +kernel)
theorem gk_X3_154 : GoodIn gw (wsV RX3 154 RX6 yX6_markBreaking (.code yX6_markBreaking cX6_markBreaking 7 (some .boolean) :: gw)) ∧ (yX6_markBreaking.cls = RX6 ∧ yX6_markBreaking.cls ≠ "java/lang/invoke/MethodHandle" ∧ yX6_markBreaking.cls ≠ "java/lang/invoke/VarHandle" ∧ (parseMethodDescriptor yX6_markBreaking.desc).map (fun d => d.parameters.length) = some 1) := ⟨gi_V kw_3_169 kw_3_170 kw_3_171 kw_1_7 kw_3_172, by decide +kernel⟩
theorem dX3_passHour_100 : decode cX3_passHour 100 = .ok (.invokevirtual 154, 3) := by decide +kernel
theorem dX3_passHour_103 : decode cX3_passHour 103 = .ok (.ifCond .eq 16, 3) := by decide +kernel
theorem dX3_passHour_106 : decode cX3_passHour 106 = .ok (.iload_n 2, 1) := by decide +kernel
theorem dX3_passHour_107 : decode cX3_passHour 107 = .ok (.aload_n 0, 1) := by decide +kernel
theorem kw_3_173 : Cond.methodLink RX3 157 yX3_breakMarked ∈ gw := gw_t3 (List.mem_of_getElem? (i := 173) (by decide +kernel)) (by decide +kernel)
theorem kw_3_175 : Cond.instanceMethod yX3_breakMarked ∈ gw := gw_t3 (List.mem_of_getElem? (i := 175) (by decide +kernel)) (by decide +kernel)
theorem ks_1_13 : Cond.selects RX3 yX3_breakMarked yX3_breakMarked ∈ gw := gw_s (y := yX3_breakMarked) (n := 6) (List.mem_append_left _ (List.mem_of_getElem? (i := 13) (by decide +kernel)))
theorem kw_3_176 : Cond.code yX3_breakMarked cX3_breakMarked 4 (some .int) ∈ gw := gw_t3 (List.mem_of_getElem? (i := 176) (by decide +kernel)) (by decide +kernel)
theorem gk_X3_157 : GoodIn gw (wsV RX3 157 RX3 yX3_breakMarked (.code yX3_breakMarked cX3_breakMarked 4 (some .int) :: gw)) ∧ (yX3_breakMarked.cls = RX3 ∧ yX3_breakMarked.cls ≠ "java/lang/invoke/MethodHandle" ∧ yX3_breakMarked.cls ≠ "java/lang/invoke/VarHandle" ∧ (parseMethodDescriptor yX3_breakMarked.desc).map (fun d => d.parameters.length) = some 0) := ⟨gi_V kw_3_173 kw_3_175 ks_1_13 kw_1_6 kw_3_176, by decide +kernel⟩
theorem dX3_passHour_108 : decode cX3_passHour 108 = .ok (.invokevirtual 157, 3) := by decide +kernel
theorem dX3_passHour_111 : decode cX3_passHour 111 = .ok (.iadd, 1) := by decide +kernel
theorem dX3_passHour_112 : decode cX3_passHour 112 = .ok (.istore_n 2, 1) := by decide +kernel
theorem dX3_passHour_113 : decode cX3_passHour 113 = .ok (.iinc 3 1, 3) := by decide +kernel
theorem dX3_passHour_116 : decode cX3_passHour 116 = .ok (.goto (-33), 3) := by decide +kernel
set_option maxHeartbeats 4000000 in
set_option maxRecDepth 100000 in
theorem lp_hour_rounds {p : Program} {l : Launch} {e : Env} {s : State} {m : MethodId} {args : Array Value} {below : List Frame} {meth : Method} {c : Code} {Q : State → Prop} {A : Nat → Prop} {D : va_G} (F : mFix p s m args c cX3_passHour 4 RX3) (hA : ∀ q, s.heap.size ≤ q → A q) (h0 : Nat) (cu : Nat) (rv : Nat) (bt : Nat) (cu1 : Nat) (cu2 : Nat) (cu3 : Nat) (cu4 : Nat) (q1 : Nat) (q2 : Nat) (q3 : Nat) (q4 : Nat) (q5 : Nat) (q6 : Nat) (cc1 : ClassId) (cy1 : ClassId) (cy2 : ClassId) (cy3 : ClassId) (cy4 : ClassId) (cy5 : ClassId) (cy6 : ClassId) (f3 : Nat → Int32) (f4 : Nat → Int32) (w : Nat) (h : Nat) (fe : Int32) (co : Int32) (ho : Int32) (g1 : Nat → Int32) (g2 : Nat → Int32) (hK : va_K D vwCl [(cc1, .int), (cy1, .int), (cy2, .int), (cy3, .int), (cy4, .int), (cy5, .boolean), (cy6, .boolean)] s)
    (kx_119 : ∀ (g5 : Nat → Int32) (g6 : Nat → Int32), ∀ (H : Heap) (locs : List Loc), va_P D vwCl [(h0, .inr (3, [.ref cu, .ref rv, .ref bt, .int 0, .int ho, .int fe])), (cu, .inr (1, [.ref cu1, .ref cu2, .ref cu3, .ref cu4, .int 0, .int 0])), (cu1, .inl (cc1, 8, .inl uF)), (rv, .inr (5, [.int (nI w), .int (nI h), .ref q1, .ref q2, .ref q3, .ref q4, .ref q5, .ref q6])), (q1, .inl (cy1, 100, .inl g1)), (q2, .inl (cy2, 100, .inl g2)), (q3, .inl (cy3, 100, .inl f3)), (q4, .inl (cy4, 100, .inl f4)), (q5, .inl (cy5, 100, .inl g5)), (q6, .inl (cy6, 100, .inl g6))] H → va_D A [(h0, .inr (3, [.ref cu, .ref rv, .ref bt, .int 0, .int ho, .int fe])), (cu, .inr (1, [.ref cu1, .ref cu2, .ref cu3, .ref cu4, .int 0, .int 0])), (cu1, .inl (cc1, 8, .inl uF)), (rv, .inr (5, [.int (nI w), .int (nI h), .ref q1, .ref q2, .ref q3, .ref q4, .ref q5, .ref q6])), (q1, .inl (cy1, 100, .inl g1)), (q2, .inl (cy2, 100, .inl g2)), (q3, .inl (cy3, 100, .inl f3)), (q4, .inl (cy4, 100, .inl f4)), (q5, .inl (cy5, 100, .inl g5)), (q6, .inl (cy6, 100, .inl g6))] → va_S A s.heap H locs → ∀ ls : Array Slot, lv_has ls 4 [(2, .int 0)] → W p l e ({ frames := 5, cells := 0, slots := 0, locals := 115 }) s m args below meth c H locs 0 0 Q (F0 m 119 ls [])) :
    ∀ n : Nat, ∀ (g5 : Nat → Int32) (g6 : Nat → Int32) (i : Nat), (i ≤ 100) → (w ≤ 10) → (h ≤ 10) → (100 - i) < n → ∀ (H : Heap) (locs : List Loc), va_P D vwCl [(h0, .inr (3, [.ref cu, .ref rv, .ref bt, .int 0, .int ho, .int fe])), (cu, .inr (1, [.ref cu1, .ref cu2, .ref cu3, .ref cu4, .int 0, .int 0])), (cu1, .inl (cc1, 8, .inl uF)), (rv, .inr (5, [.int (nI w), .int (nI h), .ref q1, .ref q2, .ref q3, .ref q4, .ref q5, .ref q6])), (q1, .inl (cy1, 100, .inl g1)), (q2, .inl (cy2, 100, .inl g2)), (q3, .inl (cy3, 100, .inl f3)), (q4, .inl (cy4, 100, .inl f4)), (q5, .inl (cy5, 100, .inl g5)), (q6, .inl (cy6, 100, .inl g6))] H → va_D A [(h0, .inr (3, [.ref cu, .ref rv, .ref bt, .int 0, .int ho, .int fe])), (cu, .inr (1, [.ref cu1, .ref cu2, .ref cu3, .ref cu4, .int 0, .int 0])), (cu1, .inl (cc1, 8, .inl uF)), (rv, .inr (5, [.int (nI w), .int (nI h), .ref q1, .ref q2, .ref q3, .ref q4, .ref q5, .ref q6])), (q1, .inl (cy1, 100, .inl g1)), (q2, .inl (cy2, 100, .inl g2)), (q3, .inl (cy3, 100, .inl f3)), (q4, .inl (cy4, 100, .inl f4)), (q5, .inl (cy5, 100, .inl g5)), (q6, .inl (cy6, 100, .inl g6))] → va_S A s.heap H locs → ∀ ls : Array Slot, lv_has ls 4 [(0, .ref h0), (2, .int 0), (3, .int (nI i))] → W p l e ({ frames := 5, cells := 0, slots := 0, locals := 115 }) s m args below meth c H locs 0 0 Q (F0 m 83 ls []) := by
  intro n
  induction n with
  | zero => intro g5 g6 i b1 h3 h4 hn; exact absurd hn (Nat.not_lt_zero _)
  | succ n ih =>
    intro g5 g6 i b1 h3 h4 hn H locs hP hD hS ls hl
    obtain ⟨hx, hb, hml, hown, hts⟩ := id F
    refine lv_iload_n hx hb dX3_passHour_83 rfl (lv_at hl 2 rfl) ?_
    refine lv_bipush (v := 100) hx hb dX3_passHour_84 (by decide) ?_
    refine lv_icmp_ge (tgt := 119) hx hb dX3_passHour_86 (by decide) (fun c_1 => ?_) (fun c_1 => ?_)
    · skip
      have c_1n : 100 ≤ i := (nI_leI (by omega) (by omega)).mp c_1
      have c_1 := Int32.not_lt.mpr c_1
      exact kx_119 g5 g6  H locs (hP.sub [0, 1, 2, 3, 4, 5, 6, 7, 8, 9] rfl) (hD.sub [0, 1, 2, 3, 4, 5, 6, 7, 8, 9] (by decide) rfl) hS ls (lv_sub hl [1] rfl)
    · skip
      have c_1n : i < 100 := nb_le (by omega) (by omega) c_1
      have c_1 := Int32.not_le.mp c_1
      refine lv_aload_n hx hb dX3_passHour_89 rfl (lv_at hl 0 rfl) ?_
      refine va_get (D := D) (ci := 3) (v := .ref rv) (C := RX3) (T := TX3) (N := 6) hx hb hts inG_X3 hown hK hP 0 rfl rfl 1 (by decide) (hts _ kw_1_219) (fun _ h9 => h9) rfl dX3_passHour_90 ?_
      refine lv_aload_n hx hb dX3_passHour_93 rfl (lv_at hl 0 rfl) ?_
      refine va_get (D := D) (ci := 3) (v := .ref cu) (C := RX3) (T := TX3) (N := 6) hx hb hts inG_X3 hown hK hP 0 rfl rfl 0 (by decide) (hts _ kw_1_215) (fun _ h9 => h9) rfl dX3_passHour_94 ?_
      refine mc_Vi (rest := [.ref rv]) (wr := [(h0, .inr (3, [.ref cu, .ref rv, .ref bt, .int 0, .int ho, .int fe])), (rv, .inr (5, [.int (nI w), .int (nI h), .ref q1, .ref q2, .ref q3, .ref q4, .ref q5, .ref q6])), (q1, .inl (cy1, 100, .inl g1)), (q2, .inl (cy2, 100, .inl g2)), (q3, .inl (cy3, 100, .inl f3)), (q4, .inl (cy4, 100, .inl f4)), (q5, .inl (cy5, 100, .inl g5)), (q6, .inl (cy6, 100, .inl g6))]) F hK hP hD hS hA (c_cu_bear l D cu cu1 cu2 cu3 cu4 cc1 0 0 ) ⟨gk_X3_80.1, gk_X3_80.2, Nat.le_of_ble_eq_true rfl, Nat.le_of_ble_eq_true rfl⟩ [1, 2] [0, 3, 4, 5, 6, 7, 8, 9] [0] ⟨rfl, rfl, rfl, rfl, by decide⟩ rfl xT_move (fun _ _ _ => trivial) 1 rfl rfl rfl hl.1 rfl (Nat.le_of_ble_eq_true rfl) dX3_passHour_97 ⟨Nat.le_of_ble_eq_true rfl, Nat.le_of_ble_eq_true rfl⟩ (fun r_2 _ H locs hw hK1 hP hD hS => ?_)
      have hP : va_P D vwCl [(h0, .inr (3, [.ref cu, .ref rv, .ref bt, .int 0, .int ho, .int fe])), (rv, .inr (5, [.int (nI w), .int (nI h), .ref q1, .ref q2, .ref q3, .ref q4, .ref q5, .ref q6])), (q1, .inl (cy1, 100, .inl g1)), (q2, .inl (cy2, 100, .inl g2)), (q3, .inl (cy3, 100, .inl f3)), (q4, .inl (cy4, 100, .inl f4)), (q5, .inl (cy5, 100, .inl g5)), (q6, .inl (cy6, 100, .inl g6)), (cu, .inr (1, [.ref cu1, .ref cu2, .ref cu3, .ref cu4, .int 0, .int 0])), (cu1, .inl (cc1, 8, .inl uF))] H := hP
      have hD : va_D A [(h0, .inr (3, [.ref cu, .ref rv, .ref bt, .int 0, .int ho, .int fe])), (rv, .inr (5, [.int (nI w), .int (nI h), .ref q1, .ref q2, .ref q3, .ref q4, .ref q5, .ref q6])), (q1, .inl (cy1, 100, .inl g1)), (q2, .inl (cy2, 100, .inl g2)), (q3, .inl (cy3, 100, .inl f3)), (q4, .inl (cy4, 100, .inl f4)), (q5, .inl (cy5, 100, .inl g5)), (q6, .inl (cy6, 100, .inl g6)), (cu, .inr (1, [.ref cu1, .ref cu2, .ref cu3, .ref cu4, .int 0, .int 0])), (cu1, .inl (cc1, 8, .inl uF))] := hD
      have hw_3 : r_2 = 100 := hw
      obtain rfl : r_2 = 100 := hw_3
      refine mc_Vi (rest := []) (wr := [(h0, .inr (3, [.ref cu, .ref rv, .ref bt, .int 0, .int ho, .int fe])), (q4, .inl (cy4, 100, .inl f4)), (cu, .inr (1, [.ref cu1, .ref cu2, .ref cu3, .ref cu4, .int 0, .int 0])), (cu1, .inl (cc1, 8, .inl uF))]) F hK hP hD hS hA (c_markBreaking l D rv q1 q2 q3 q4 q5 q6 cy1 cy2 cy3 cy5 cy6 g1 g2 f3 g5 w h 100 g6 (by omega) (by omega)) ⟨gk_X3_154.1, gk_X3_154.2, Nat.le_of_ble_eq_true rfl, Nat.le_of_ble_eq_true rfl⟩ [1, 2, 3, 4, 6, 7] [0, 5, 8, 9] [1, 2, 3, 5, 6] ⟨rfl, rfl, rfl, rfl, by decide⟩ rfl xT_move (fun _ _ _ => trivial) 1 rfl rfl rfl hl.1 rfl (Nat.le_of_ble_eq_true rfl) dX3_passHour_100 ⟨Nat.le_of_ble_eq_true rfl, Nat.le_of_ble_eq_true rfl⟩ (fun r_5 g6_4 H locs hw hK1 hP hD hS => ?_)
      have hP : va_P D vwCl [(h0, .inr (3, [.ref cu, .ref rv, .ref bt, .int 0, .int ho, .int fe])), (q4, .inl (cy4, 100, .inl f4)), (cu, .inr (1, [.ref cu1, .ref cu2, .ref cu3, .ref cu4, .int 0, .int 0])), (cu1, .inl (cc1, 8, .inl uF)), (rv, .inr (5, [.int (nI w), .int (nI h), .ref q1, .ref q2, .ref q3, .ref q4, .ref q5, .ref q6])), (q1, .inl (cy1, 100, .inl g1)), (q2, .inl (cy2, 100, .inl g2)), (q3, .inl (cy3, 100, .inl f3)), (q5, .inl (cy5, 100, .inl g5)), (q6, .inl (cy6, 100, .inl g6_4))] H := hP
      have hD : va_D A [(h0, .inr (3, [.ref cu, .ref rv, .ref bt, .int 0, .int ho, .int fe])), (q4, .inl (cy4, 100, .inl f4)), (cu, .inr (1, [.ref cu1, .ref cu2, .ref cu3, .ref cu4, .int 0, .int 0])), (cu1, .inl (cc1, 8, .inl uF)), (rv, .inr (5, [.int (nI w), .int (nI h), .ref q1, .ref q2, .ref q3, .ref q4, .ref q5, .ref q6])), (q1, .inl (cy1, 100, .inl g1)), (q2, .inl (cy2, 100, .inl g2)), (q3, .inl (cy3, 100, .inl f3)), (q5, .inl (cy5, 100, .inl g5)), (q6, .inl (cy6, 100, .inl g6_4))] := hD
      have hw_6 : r_5 = 0 ∨ r_5 = 1 := hw
      refine lv_if_eq (tgt := 119) hx hb dX3_passHour_103 (by decide) (fun c_7 => ?_) (fun c_7 => ?_)
      · skip
        exact kx_119 g5 g6_4  H locs (hP.sub [0, 2, 3, 4, 5, 6, 7, 1, 8, 9] rfl) (hD.sub [0, 2, 3, 4, 5, 6, 7, 1, 8, 9] (by decide) rfl) hS ls (lv_sub hl [1] rfl)
      · skip
        refine lv_iload_n hx hb dX3_passHour_106 rfl (lv_at hl 1 rfl) ?_
        refine lv_aload_n hx hb dX3_passHour_107 rfl (lv_at hl 0 rfl) ?_
        refine mc_Vi (rest := [.int 0]) (wr := [(cu, .inr (1, [.ref cu1, .ref cu2, .ref cu3, .ref cu4, .int 0, .int 0])), (cu1, .inl (cc1, 8, .inl uF)), (q1, .inl (cy1, 100, .inl g1)), (q2, .inl (cy2, 100, .inl g2)), (q3, .inl (cy3, 100, .inl f3))]) F hK hP hD hS hA (c_breakMarked0 l D h0 cu rv bt q1 q2 q3 q4 q5 q6 cy4 cy5 cy6 f4 g6_4 w h ho fe g5 (by omega) (by omega)) ⟨gk_X3_157.1, gk_X3_157.2, Nat.le_of_ble_eq_true rfl, Nat.le_of_ble_eq_true rfl⟩ [0, 4, 1, 8, 9] [2, 3, 5, 6, 7] [4, 5, 6] ⟨rfl, rfl, rfl, rfl, by decide⟩ rfl xT_move (fun _ _ _ => trivial) 0 rfl rfl rfl hl.1 rfl (Nat.le_of_ble_eq_true rfl) dX3_passHour_108 ⟨Nat.le_of_ble_eq_true rfl, Nat.le_of_ble_eq_true rfl⟩ (fun r_9 g5_8 H locs hw hK1 hP hD hS => ?_)
        have hP : va_P D vwCl [(cu, .inr (1, [.ref cu1, .ref cu2, .ref cu3, .ref cu4, .int 0, .int 0])), (cu1, .inl (cc1, 8, .inl uF)), (q1, .inl (cy1, 100, .inl g1)), (q2, .inl (cy2, 100, .inl g2)), (q3, .inl (cy3, 100, .inl f3)), (h0, .inr (3, [.ref cu, .ref rv, .ref bt, .int 0, .int ho, .int fe])), (rv, .inr (5, [.int (nI w), .int (nI h), .ref q1, .ref q2, .ref q3, .ref q4, .ref q5, .ref q6])), (q4, .inl (cy4, 100, .inl f4)), (q5, .inl (cy5, 100, .inl g5_8)), (q6, .inl (cy6, 100, .inl g6_4))] H := hP
        have hD : va_D A [(cu, .inr (1, [.ref cu1, .ref cu2, .ref cu3, .ref cu4, .int 0, .int 0])), (cu1, .inl (cc1, 8, .inl uF)), (q1, .inl (cy1, 100, .inl g1)), (q2, .inl (cy2, 100, .inl g2)), (q3, .inl (cy3, 100, .inl f3)), (h0, .inr (3, [.ref cu, .ref rv, .ref bt, .int 0, .int ho, .int fe])), (rv, .inr (5, [.int (nI w), .int (nI h), .ref q1, .ref q2, .ref q3, .ref q4, .ref q5, .ref q6])), (q4, .inl (cy4, 100, .inl f4)), (q5, .inl (cy5, 100, .inl g5_8)), (q6, .inl (cy6, 100, .inl g6_4))] := hD
        have hw_10 : r_9 = 0 := hw
        obtain rfl : r_9 = 0 := hw_10
        refine lv_iadd hx hb dX3_passHour_111 ?_
        refine lv_topi (fun z_11 ez_11 => ?_)
        obtain rfl : z_11 = (0 : Int32) := ez_11.trans (by decide)
        refine lv_istore_n (lv' := [(2, .int 0), (0, .ref h0), (3, .int (nI i))]) hx hb dX3_passHour_112 rfl hl (by decide) rfl (fun ls hl => ?_)
        refine lv_iinc (v := nI (i + 1)) (lv' := [(3, .int (nI (i + 1))), (2, .int 0), (0, .ref h0)]) hx hb dX3_passHour_113 hl (k := 2) rfl (nI_add i 1) (by decide) rfl (fun ls hl => ?_)
        refine lv_goto (tgt := 83) hx hb dX3_passHour_116 (by decide) ?_
        exact ih g5_8 g6_4 (i + 1) (by omega) (by omega) (by omega) (by omega) H locs (hP.sub [5, 0, 1, 6, 2, 3, 4, 7, 8, 9] rfl) (hD.sub [5, 0, 1, 6, 2, 3, 4, 7, 8, 9] (by decide) rfl) hS ls (lv_sub hl [2, 1, 0] rfl)
theorem dX3_passHour_0 : decode cX3_passHour 0 = .ok (.aload_n 0, 1) := by decide +kernel
theorem dX3_passHour_1 : decode cX3_passHour 1 = .ok (.dup, 1) := by decide +kernel
theorem dX3_passHour_2 : decode cX3_passHour 2 = .ok (.getfield 40, 3) := by decide +kernel
theorem dX3_passHour_5 : decode cX3_passHour 5 = .ok (.iconst 1, 1) := by decide +kernel
theorem dX3_passHour_6 : decode cX3_passHour 6 = .ok (.iadd, 1) := by decide +kernel
theorem dX3_passHour_7 : decode cX3_passHour 7 = .ok (.putfield 40, 3) := by decide +kernel
theorem dX3_passHour_10 : decode cX3_passHour 10 = .ok (.aload_n 0, 1) := by decide +kernel
theorem dX3_passHour_11 : decode cX3_passHour 11 = .ok (.getfield 21, 3) := by decide +kernel
theorem dX3_passHour_14 : decode cX3_passHour 14 = .ok (.aload_n 0, 1) := by decide +kernel
theorem dX3_passHour_15 : decode cX3_passHour 15 = .ok (.getfield 12, 3) := by decide +kernel
theorem kw_3_130 : Cond.methodLink RX3 135 yX1_heal ∈ gw := gw_t3 (List.mem_of_getElem? (i := 130) (by decide +kernel)) (by decide +kernel)
theorem kw_3_131 : Cond.instanceMethod yX1_heal ∈ gw := gw_t3 (List.mem_of_getElem? (i := 131) (by decide +kernel)) (by decide +kernel)
theorem kw_3_132 : Cond.selects RX1 yX1_heal yX1_heal ∈ gw := gw_t3 (List.mem_of_getElem? (i := 132) (by decide +kernel)) (by decide +kernel)
theorem kw_3_133 : Cond.code yX1_heal cX1_heal 1 (some .int) ∈ gw := gw_t3 (List.mem_of_getElem? (i := 133) (by decide +kernel)) (by decide +kernel)
theorem gk_X3_135 : GoodIn gw (wsV RX3 135 RX1 yX1_heal (.code yX1_heal cX1_heal 1 (some .int) :: gw)) ∧ (yX1_heal.cls = RX1 ∧ yX1_heal.cls ≠ "java/lang/invoke/MethodHandle" ∧ yX1_heal.cls ≠ "java/lang/invoke/VarHandle" ∧ (parseMethodDescriptor yX1_heal.desc).map (fun d => d.parameters.length) = some 0) := ⟨gi_V kw_3_130 kw_3_131 kw_3_132 kw_1_4 kw_3_133, by decide +kernel⟩
theorem dX3_passHour_18 : decode cX3_passHour 18 = .ok (.invokevirtual 135, 3) := by decide +kernel
theorem kw_3_134 : Cond.methodLink RX3 138 yX6_healFrom ∈ gw := gw_t3 (List.mem_of_getElem? (i := 134) (by decide +kernel)) (by decide +kernel)
theorem kw_3_135 : Cond.instanceMethod yX6_healFrom ∈ gw := gw_t3 (List.mem_of_getElem? (i := 135) (by decide +kernel)) (by decide +kernel)
theorem kw_3_136 : Cond.selects RX6 yX6_healFrom yX6_healFrom ∈ gw := gw_t3 (List.mem_of_getElem? (i := 136) (by decide +kernel)) (by decide +kernel)
theorem kw_3_137 : Cond.code yX6_healFrom cX6_healFrom 3 none ∈ gw := gw_t3 (List.mem_of_getElem? (i := 137) (by decide +kernel)) (by decide +kernel)
theorem gk_X3_138 : GoodIn gw (wsV RX3 138 RX6 yX6_healFrom (.code yX6_healFrom cX6_healFrom 3 none :: gw)) ∧ (yX6_healFrom.cls = RX6 ∧ yX6_healFrom.cls ≠ "java/lang/invoke/MethodHandle" ∧ yX6_healFrom.cls ≠ "java/lang/invoke/VarHandle" ∧ (parseMethodDescriptor yX6_healFrom.desc).map (fun d => d.parameters.length) = some 1) := ⟨gi_V kw_3_134 kw_3_135 kw_3_136 kw_1_7 kw_3_137, by decide +kernel⟩
theorem dX3_passHour_21 : decode cX3_passHour 21 = .ok (.invokevirtual 138, 3) := by decide +kernel
theorem dX3_passHour_24 : decode cX3_passHour 24 = .ok (.iconst 0, 1) := by decide +kernel
theorem dX3_passHour_25 : decode cX3_passHour 25 = .ok (.istore_n 2, 1) := by decide +kernel
theorem dX3_passHour_79 : decode cX3_passHour 79 = .ok (.iconst 0, 1) := by decide +kernel
theorem dX3_passHour_80 : decode cX3_passHour 80 = .ok (.istore_n 2, 1) := by decide +kernel
theorem dX3_passHour_81 : decode cX3_passHour 81 = .ok (.iconst 0, 1) := by decide +kernel
theorem dX3_passHour_82 : decode cX3_passHour 82 = .ok (.istore_n 3, 1) := by decide +kernel
theorem dX3_passHour_119 : decode cX3_passHour 119 = .ok (.iload_n 2, 1) := by decide +kernel
theorem dX3_passHour_120 : decode cX3_passHour 120 = .ok (.ireturn, 1) := by decide +kernel
set_option maxHeartbeats 4000000 in
set_option maxRecDepth 100000 in
theorem c_passHour0 (l : Launch) (D : va_G) (h0 : Nat) (cu : Nat) (rv : Nat) (bt : Nat) (cu1 : Nat) (cu2 : Nat) (cu3 : Nat) (cu4 : Nat) (q1 : Nat) (q2 : Nat) (q3 : Nat) (q4 : Nat) (q5 : Nat) (q6 : Nat) (cc1 : ClassId) (cy1 : ClassId) (cy2 : ClassId) (cy3 : ClassId) (cy4 : ClassId) (cy5 : ClassId) (cy6 : ClassId) (f3 : Nat → Int32) (f4 : Nat → Int32) (w : Nat) (h : Nat) (fe : Int32) (co : Int32) (ho : Int32) (f1 : Nat → Int32) (f2 : Nat → Int32) (f5 : Nat → Int32) (f6 : Nat → Int32) (h3 : w ≤ 10) (h4 : h ≤ 10) : cI l yX3_passHour (.code yX3_passHour cX3_passHour 4 (some .int)) ({ frames := 5, cells := 0, slots := 0, locals := 115 }) D [(cc1, .int), (cy1, .int), (cy2, .int), (cy3, .int), (cy4, .int), (cy5, .boolean), (cy6, .boolean)] [(h0, .inr (3, [.ref cu, .ref rv, .ref bt, .int 0, .int ho, .int fe])), (cu, .inr (1, [.ref cu1, .ref cu2, .ref cu3, .ref cu4, .int 0, .int 0])), (cu1, .inl (cc1, 8, .inl uF)), (rv, .inr (5, [.int (nI w), .int (nI h), .ref q1, .ref q2, .ref q3, .ref q4, .ref q5, .ref q6])), (q1, .inl (cy1, 100, .inl f1)), (q2, .inl (cy2, 100, .inl f2)), (q3, .inl (cy3, 100, .inl f3)), (q4, .inl (cy4, 100, .inl f4)), (q5, .inl (cy5, 100, .inl f5)), (q6, .inl (cy6, 100, .inl f6))] xT [.ref h0, .int co] (S := Unit) (fun r _ => r = 0) (fun _ => []) (fun _ => []) := by
  intro sz
  refine Met.ofW (cc := cX3_passHour) (maxL := 4) (ret := (some .int)) (by decide) rfl ?_
  intro p e s m args below meth c s₁ B hml hv
  obtain ⟨rfl, hsz, hP, hK, hD0, hX⟩ := hv
  have hx := B.exec
  have hb := B.bytes
  have hr := B.returns
  have hts0 := atoms_spec (ws := .code yX3_passHour cX3_passHour 4 (some .int) :: gw) B.pre
  have hts := fun (w : Cond) (h : w ∈ gw) => hts0 w (List.mem_cons_of_mem _ h)
  have hown : s.vm.findClass RX3 = some m.cls := findClass_of_methodNamed B.named
  have hlocks := B.notSynchronized
  have F : mFix p s m _ c cX3_passHour 4 RX3 := ⟨hx, hb, hml, hown, hts⟩
  subst hsz
  have hD := hD0.self (sz := s.heap.size)
  generalize hAe : va_A [(h0, .inr (3, [.ref cu, .ref rv, .ref bt, .int 0, .int ho, .int fe])), (cu, .inr (1, [.ref cu1, .ref cu2, .ref cu3, .ref cu4, .int 0, .int 0])), (cu1, .inl (cc1, 8, .inl uF)), (rv, .inr (5, [.int (nI w), .int (nI h), .ref q1, .ref q2, .ref q3, .ref q4, .ref q5, .ref q6])), (q1, .inl (cy1, 100, .inl f1)), (q2, .inl (cy2, 100, .inl f2)), (q3, .inl (cy3, 100, .inl f3)), (q4, .inl (cy4, 100, .inl f4)), (q5, .inl (cy5, 100, .inl f5)), (q6, .inl (cy6, 100, .inl f6))] s.heap.size = A at hD hX ⊢
  have hA : ∀ q : Nat, s.heap.size ≤ q → A q := fun q h => by rw [← hAe]; exact Or.inr h
  have hS : va_S A s.heap s.heap [] := va_S.rf
  have hl := lv_entry ([.ref h0, .int co]) (n := 4) (Nat.le_of_ble_eq_true rfl)
  rw [lg_entry_eq]
  generalize (lg_sl ([.ref h0, .int co]) ++ List.replicate (4 - (lg_sl ([.ref h0, .int co])).length) Slot.unset).toArray = ls at hl ⊢
  have hl : lv_has ls 4 [(0, .ref h0), (1, .int co)] := hl
  have hP : va_P D vwCl [(h0, .inr (3, [.ref cu, .ref rv, .ref bt, .int 0, .int ho, .int fe])), (cu, .inr (1, [.ref cu1, .ref cu2, .ref cu3, .ref cu4, .int 0, .int 0])), (cu1, .inl (cc1, 8, .inl uF)), (rv, .inr (5, [.int (nI w), .int (nI h), .ref q1, .ref q2, .ref q3, .ref q4, .ref q5, .ref q6])), (q1, .inl (cy1, 100, .inl f1)), (q2, .inl (cy2, 100, .inl f2)), (q3, .inl (cy3, 100, .inl f3)), (q4, .inl (cy4, 100, .inl f4)), (q5, .inl (cy5, 100, .inl f5)), (q6, .inl (cy6, 100, .inl f6))] s.heap := hP
  refine lv_aload_n hx hb dX3_passHour_0 rfl (lv_at hl 0 rfl) ?_
  refine lv_dup hx hb dX3_passHour_1 rfl ?_
  refine va_get (D := D) (ci := 3) (v := .int ho) (C := RX3) (T := TX3) (N := 6) hx hb hts inG_X3 hown hK hP 0 rfl rfl 4 (by decide) (hts _ kw_1_230) (fun _ h9 => h9) rfl dX3_passHour_2 ?_
  refine lv_iconst (v := 1) hx hb dX3_passHour_5 (by decide) ?_
  refine lv_iadd hx hb dX3_passHour_6 ?_
  refine lv_topi (fun z_1 ez_1 => ?_)
  refine va_put (D := D) (ci := 3) (v := .int z_1) (ty := .int) (C := RX3) (T := TX3) (N := 6) hx hb hts inG_X3 tyX3 tyX3_ok nmX3 hown hK hP hD hS 0 rfl rfl 4 (by decide) (hts _ kw_1_230) (fun _ h9 => h9) rfl (by decide +kernel) rfl rfl (Nat.le_of_ble_eq_true rfl) dX3_passHour_7 (fun H locs hP hD hS => ?_)
  have hP : va_P D vwCl [(h0, .inr (3, [.ref cu, .ref rv, .ref bt, .int 0, .int z_1, .int fe])), (cu, .inr (1, [.ref cu1, .ref cu2, .ref cu3, .ref cu4, .int 0, .int 0])), (cu1, .inl (cc1, 8, .inl uF)), (rv, .inr (5, [.int (nI w), .int (nI h), .ref q1, .ref q2, .ref q3, .ref q4, .ref q5, .ref q6])), (q1, .inl (cy1, 100, .inl f1)), (q2, .inl (cy2, 100, .inl f2)), (q3, .inl (cy3, 100, .inl f3)), (q4, .inl (cy4, 100, .inl f4)), (q5, .inl (cy5, 100, .inl f5)), (q6, .inl (cy6, 100, .inl f6))] H := hP
  have hD : va_D A [(h0, .inr (3, [.ref cu, .ref rv, .ref bt, .int 0, .int z_1, .int fe])), (cu, .inr (1, [.ref cu1, .ref cu2, .ref cu3, .ref cu4, .int 0, .int 0])), (cu1, .inl (cc1, 8, .inl uF)), (rv, .inr (5, [.int (nI w), .int (nI h), .ref q1, .ref q2, .ref q3, .ref q4, .ref q5, .ref q6])), (q1, .inl (cy1, 100, .inl f1)), (q2, .inl (cy2, 100, .inl f2)), (q3, .inl (cy3, 100, .inl f3)), (q4, .inl (cy4, 100, .inl f4)), (q5, .inl (cy5, 100, .inl f5)), (q6, .inl (cy6, 100, .inl f6))] := hD
  refine lv_aload_n hx hb dX3_passHour_10 rfl (lv_at hl 0 rfl) ?_
  refine va_get (D := D) (ci := 3) (v := .ref rv) (C := RX3) (T := TX3) (N := 6) hx hb hts inG_X3 hown hK hP 0 rfl rfl 1 (by decide) (hts _ kw_1_219) (fun _ h9 => h9) rfl dX3_passHour_11 ?_
  refine lv_aload_n hx hb dX3_passHour_14 rfl (lv_at hl 0 rfl) ?_
  refine va_get (D := D) (ci := 3) (v := .ref cu) (C := RX3) (T := TX3) (N := 6) hx hb hts inG_X3 hown hK hP 0 rfl rfl 0 (by decide) (hts _ kw_1_215) (fun _ h9 => h9) rfl dX3_passHour_15 ?_
  refine mc_Vi (rest := [.ref rv]) (wr := [(h0, .inr (3, [.ref cu, .ref rv, .ref bt, .int 0, .int z_1, .int fe])), (rv, .inr (5, [.int (nI w), .int (nI h), .ref q1, .ref q2, .ref q3, .ref q4, .ref q5, .ref q6])), (q1, .inl (cy1, 100, .inl f1)), (q2, .inl (cy2, 100, .inl f2)), (q3, .inl (cy3, 100, .inl f3)), (q4, .inl (cy4, 100, .inl f4)), (q5, .inl (cy5, 100, .inl f5)), (q6, .inl (cy6, 100, .inl f6))]) F hK hP hD hS hA (c_cu_heal l D cu cu1 cu2 cu3 cu4 cc1 0 0 ) ⟨gk_X3_135.1, gk_X3_135.2, Nat.le_of_ble_eq_true rfl, Nat.le_of_ble_eq_true rfl⟩ [1, 2] [0, 3, 4, 5, 6, 7, 8, 9] [0] ⟨rfl, rfl, rfl, rfl, by decide⟩ rfl xT_move (fun _ _ _ => trivial) 1 rfl rfl rfl hl.1 rfl (Nat.le_of_ble_eq_true rfl) dX3_passHour_18 ⟨Nat.le_of_ble_eq_true rfl, Nat.le_of_ble_eq_true rfl⟩ (fun r_2 _ H locs hw hK1 hP hD hS => ?_)
  have hP : va_P D vwCl [(h0, .inr (3, [.ref cu, .ref rv, .ref bt, .int 0, .int z_1, .int fe])), (rv, .inr (5, [.int (nI w), .int (nI h), .ref q1, .ref q2, .ref q3, .ref q4, .ref q5, .ref q6])), (q1, .inl (cy1, 100, .inl f1)), (q2, .inl (cy2, 100, .inl f2)), (q3, .inl (cy3, 100, .inl f3)), (q4, .inl (cy4, 100, .inl f4)), (q5, .inl (cy5, 100, .inl f5)), (q6, .inl (cy6, 100, .inl f6)), (cu, .inr (1, [.ref cu1, .ref cu2, .ref cu3, .ref cu4, .int 0, .int 0])), (cu1, .inl (cc1, 8, .inl uF))] H := hP
  have hD : va_D A [(h0, .inr (3, [.ref cu, .ref rv, .ref bt, .int 0, .int z_1, .int fe])), (rv, .inr (5, [.int (nI w), .int (nI h), .ref q1, .ref q2, .ref q3, .ref q4, .ref q5, .ref q6])), (q1, .inl (cy1, 100, .inl f1)), (q2, .inl (cy2, 100, .inl f2)), (q3, .inl (cy3, 100, .inl f3)), (q4, .inl (cy4, 100, .inl f4)), (q5, .inl (cy5, 100, .inl f5)), (q6, .inl (cy6, 100, .inl f6)), (cu, .inr (1, [.ref cu1, .ref cu2, .ref cu3, .ref cu4, .int 0, .int 0])), (cu1, .inl (cc1, 8, .inl uF))] := hD
  have hw_3 : r_2 = 99 := hw
  obtain rfl : r_2 = 99 := hw_3
  refine mc_Vv (rest := []) (wr := [(h0, .inr (3, [.ref cu, .ref rv, .ref bt, .int 0, .int z_1, .int fe])), (q2, .inl (cy2, 100, .inl f2)), (q3, .inl (cy3, 100, .inl f3)), (q4, .inl (cy4, 100, .inl f4)), (q6, .inl (cy6, 100, .inl f6)), (cu, .inr (1, [.ref cu1, .ref cu2, .ref cu3, .ref cu4, .int 0, .int 0])), (cu1, .inl (cc1, 8, .inl uF))]) F hK hP hD hS hA (c_healFrom l D rv q1 q2 q3 q4 q5 q6 cy1 cy5 f1 f5 w h 99 ) ⟨gk_X3_138.1, gk_X3_138.2, Nat.le_of_ble_eq_true rfl, Nat.le_of_ble_eq_true rfl⟩ [1, 2, 6] [0, 3, 4, 5, 7, 8, 9] [1, 5] ⟨rfl, rfl, rfl, rfl, by decide⟩ rfl xT_move (fun _ _ _ => trivial) 1 rfl rfl rfl hl.1 rfl (Nat.le_of_ble_eq_true rfl) dX3_passHour_21 ⟨Nat.le_of_ble_eq_true rfl, Nat.le_of_ble_eq_true rfl⟩ (fun g5_4 H locs hw hK1 hP hD hS => ?_)
  have hP : va_P D vwCl [(h0, .inr (3, [.ref cu, .ref rv, .ref bt, .int 0, .int z_1, .int fe])), (q2, .inl (cy2, 100, .inl f2)), (q3, .inl (cy3, 100, .inl f3)), (q4, .inl (cy4, 100, .inl f4)), (q6, .inl (cy6, 100, .inl f6)), (cu, .inr (1, [.ref cu1, .ref cu2, .ref cu3, .ref cu4, .int 0, .int 0])), (cu1, .inl (cc1, 8, .inl uF)), (rv, .inr (5, [.int (nI w), .int (nI h), .ref q1, .ref q2, .ref q3, .ref q4, .ref q5, .ref q6])), (q1, .inl (cy1, 100, .inl f1)), (q5, .inl (cy5, 100, .inl g5_4))] H := hP
  have hD : va_D A [(h0, .inr (3, [.ref cu, .ref rv, .ref bt, .int 0, .int z_1, .int fe])), (q2, .inl (cy2, 100, .inl f2)), (q3, .inl (cy3, 100, .inl f3)), (q4, .inl (cy4, 100, .inl f4)), (q6, .inl (cy6, 100, .inl f6)), (cu, .inr (1, [.ref cu1, .ref cu2, .ref cu3, .ref cu4, .int 0, .int 0])), (cu1, .inl (cc1, 8, .inl uF)), (rv, .inr (5, [.int (nI w), .int (nI h), .ref q1, .ref q2, .ref q3, .ref q4, .ref q5, .ref q6])), (q1, .inl (cy1, 100, .inl f1)), (q5, .inl (cy5, 100, .inl g5_4))] := hD
  refine lv_iconst (v := 0) hx hb dX3_passHour_24 (by decide) ?_
  refine lv_istore_n (lv' := [(2, .int 0), (0, .ref h0), (1, .int co)]) hx hb dX3_passHour_25 rfl hl (by decide) rfl (fun ls hl => ?_)
  refine lp_hour_out F hA h0 cu rv bt cu1 cu2 cu3 cu4 q1 q2 q3 q4 q5 q6 cc1 cy1 cy2 cy3 cy4 cy5 cy6 f3 f4 w h fe co z_1 g5_4 f6 (hK.sub [0, 1, 2, 3, 4, 5, 6] rfl) (fun g1_7 g2_8  H locs hP hD hS ls hl => ?_) _ f1 f2 0 (by omega) (by omega) (by omega) (Nat.lt_succ_self _) _ _ (hP.sub [0, 5, 6, 7, 8, 1, 2, 3, 9, 4] rfl) (hD.sub [0, 5, 6, 7, 8, 1, 2, 3, 9, 4] (by decide) rfl) hS ls (lv_sub hl [1, 2, 0] rfl)
  refine lv_iconst (v := 0) hx hb dX3_passHour_79 (by decide) ?_
  refine lv_istore_n (lv' := [(2, .int 0), (0, .ref h0), (1, .int co)]) hx hb dX3_passHour_80 rfl hl (by decide) rfl (fun ls hl => ?_)
  refine lv_iconst (v := 0) hx hb dX3_passHour_81 (by decide) ?_
  refine lv_istore_n (lv' := [(3, .int 0), (2, .int 0), (0, .ref h0), (1, .int co)]) hx hb dX3_passHour_82 rfl hl (by decide) rfl (fun ls hl => ?_)
  refine lp_hour_rounds F hA h0 cu rv bt cu1 cu2 cu3 cu4 q1 q2 q3 q4 q5 q6 cc1 cy1 cy2 cy3 cy4 cy5 cy6 f3 f4 w h fe co z_1 g1_7 g2_8 (hK.sub [0, 1, 2, 3, 4, 5, 6] rfl) (fun g5_9 g6_10  H locs hP hD hS ls hl => ?_) _ g5_4 f6 0 (by omega) (by omega) (by omega) (Nat.lt_succ_self _) _ _ (hP.sub [0, 1, 2, 3, 4, 5, 6, 7, 8, 9] rfl) (hD.sub [0, 1, 2, 3, 4, 5, 6, 7, 8, 9] (by decide) rfl) hS ls (lv_sub hl [2, 1, 0] rfl)
  refine lv_iload_n hx hb dX3_passHour_119 rfl (lv_at hl 0 rfl) ?_
  have hP9 := hP.sub (ws' := []) [] rfl
  have hD9 := hD.sub (ws' := []) [] (by decide) rfl
  have hK9 := hK.sub (tys' := []) [] rfl
  refine W.widen (k := 0) (n := 0) (by decide) (by decide) ?_
  exact W.iret (v := 0) hx hb hr (fun t ht hW => ⟨⟨0, (), rfl, rfl, by rw [ht]; exact hP9, va_K.moved hW.alike hK9, hD9⟩, hS.F ht⟩) hS.2.2 dX3_passHour_120
theorem dX9_hour_0 : decode cX9_hour 0 = .ok (.iload_n 1, 1) := by decide +kernel
theorem dX9_hour_1 : decode cX9_hour 1 = .ok (.bipush (-9), 2) := by decide +kernel
theorem dX9_hour_3 : decode cX9_hour 3 = .ok (.if_icmp .lt 9, 3) := by decide +kernel
theorem dX9_hour_12 : decode cX9_hour 12 = .ok (.iconst (-1), 1) := by decide +kernel
theorem dX9_hour_13 : decode cX9_hour 13 = .ok (.ireturn, 1) := by decide +kernel
theorem dX9_hour_6 : decode cX9_hour 6 = .ok (.iload_n 1, 1) := by decide +kernel
theorem dX9_hour_7 : decode cX9_hour 7 = .ok (.bipush 9, 2) := by decide +kernel
theorem dX9_hour_9 : decode cX9_hour 9 = .ok (.if_icmp .le 5, 3) := by decide +kernel
theorem dX9_hour_14 : decode cX9_hour 14 = .ok (.aload_n 0, 1) := by decide +kernel
theorem dX9_hour_15 : decode cX9_hour 15 = .ok (.getfield 33, 3) := by decide +kernel
theorem dX9_hour_18 : decode cX9_hour 18 = .ok (.iload_n 1, 1) := by decide +kernel
theorem kw_3_126 : Cond.methodLink RX9 127 yX3_passHour ∈ gw := gw_t3 (List.mem_of_getElem? (i := 126) (by decide +kernel)) (by decide +kernel)
theorem kw_3_127 : Cond.instanceMethod yX3_passHour ∈ gw := gw_t3 (List.mem_of_getElem? (i := 127) (by decide +kernel)) (by decide +kernel)
theorem kw_3_128 : Cond.selects RX3 yX3_passHour yX3_passHour ∈ gw := gw_t3 (List.mem_of_getElem? (i := 128) (by decide +kernel)) (by decide +kernel)
theorem kw_3_129 : Cond.code yX3_passHour cX3_passHour 4 (some .int) ∈ gw := gw_t3 (List.mem_of_getElem? (i := 129) (by decide +kernel)) (by decide +kernel)
theorem gk_X9_127 : GoodIn gw (wsV RX9 127 RX3 yX3_passHour (.code yX3_passHour cX3_passHour 4 (some .int) :: gw)) ∧ (yX3_passHour.cls = RX3 ∧ yX3_passHour.cls ≠ "java/lang/invoke/MethodHandle" ∧ yX3_passHour.cls ≠ "java/lang/invoke/VarHandle" ∧ (parseMethodDescriptor yX3_passHour.desc).map (fun d => d.parameters.length) = some 1) := ⟨gi_V kw_3_126 kw_3_127 kw_3_128 kw_1_6 kw_3_129, by decide +kernel⟩
theorem dX9_hour_19 : decode cX9_hour 19 = .ok (.invokevirtual 127, 3) := by decide +kernel
theorem dX9_hour_22 : decode cX9_hour 22 = .ok (.ireturn, 1) := by decide +kernel
set_option maxHeartbeats 4000000 in
set_option maxRecDepth 100000 in
theorem c_hour (l : Launch) (D : va_G) (h0 : Nat) (tp : Nat) (rd : Nat) (dr : Nat) (fa : Nat) (ly : Nat) (wy : Nat) (cu : Nat) (rv : Nat) (bt : Nat) (cu1 : Nat) (cu2 : Nat) (cu3 : Nat) (cu4 : Nat) (rv1 : Nat) (rv2 : Nat) (rv3 : Nat) (rv4 : Nat) (rv5 : Nat) (rv6 : Nat) (cc1 : ClassId) (rc1 : ClassId) (rc2 : ClassId) (rc3 : ClassId) (rc4 : ClassId) (rc5 : ClassId) (rc6 : ClassId) (co : Int32) : cI l yX9_hour (.code yX9_hour cX9_hour 2 (some .int)) ({ frames := 6, cells := 0, slots := 0, locals := 138 }) D [(cc1, .int), (rc1, .int), (rc2, .int), (rc3, .int), (rc4, .int), (rc5, .boolean), (rc6, .boolean)] [(h0, .inr (8, [.ref tp, .ref rd, .ref dr, .ref fa, .ref ly, .ref wy])), (fa, .inr (3, [.ref cu, .ref rv, .ref bt, .int 0, .int 0, .int 0])), (cu, .inr (1, [.ref cu1, .ref cu2, .ref cu3, .ref cu4, .int 0, .int 0])), (cu1, .inl (cc1, 8, .inl uF)), (rv, .inr (5, [.int 5, .int 5, .ref rv1, .ref rv2, .ref rv3, .ref rv4, .ref rv5, .ref rv6])), (rv1, .inl (rc1, 100, .inl (fun _ => 0))), (rv2, .inl (rc2, 100, .inl (fun _ => 0))), (rv3, .inl (rc3, 100, .inl (fun _ => 0))), (rv4, .inl (rc4, 100, .inl (fun _ => (-1)))), (rv5, .inl (rc5, 100, .inl (fun _ => 0))), (rv6, .inl (rc6, 100, .inl (fun _ => 0)))] xT [.ref h0, .int co] (S := Unit) (fun r _ => r = (if co < (-9) ∨ 9 < co then (-1) else 0)) (fun _ => []) (fun _ => []) := by
  intro sz
  refine Met.ofW (cc := cX9_hour) (maxL := 2) (ret := (some .int)) (by decide) rfl ?_
  intro p e s m args below meth c s₁ B hml hv
  obtain ⟨rfl, hsz, hP, hK, hD0, hX⟩ := hv
  have hx := B.exec
  have hb := B.bytes
  have hr := B.returns
  have hts0 := atoms_spec (ws := .code yX9_hour cX9_hour 2 (some .int) :: gw) B.pre
  have hts := fun (w : Cond) (h : w ∈ gw) => hts0 w (List.mem_cons_of_mem _ h)
  have hown : s.vm.findClass RX9 = some m.cls := findClass_of_methodNamed B.named
  have hlocks := B.notSynchronized
  have F : mFix p s m _ c cX9_hour 2 RX9 := ⟨hx, hb, hml, hown, hts⟩
  subst hsz
  have hD := hD0.self (sz := s.heap.size)
  generalize hAe : va_A [(h0, .inr (8, [.ref tp, .ref rd, .ref dr, .ref fa, .ref ly, .ref wy])), (fa, .inr (3, [.ref cu, .ref rv, .ref bt, .int 0, .int 0, .int 0])), (cu, .inr (1, [.ref cu1, .ref cu2, .ref cu3, .ref cu4, .int 0, .int 0])), (cu1, .inl (cc1, 8, .inl uF)), (rv, .inr (5, [.int 5, .int 5, .ref rv1, .ref rv2, .ref rv3, .ref rv4, .ref rv5, .ref rv6])), (rv1, .inl (rc1, 100, .inl (fun _ => 0))), (rv2, .inl (rc2, 100, .inl (fun _ => 0))), (rv3, .inl (rc3, 100, .inl (fun _ => 0))), (rv4, .inl (rc4, 100, .inl (fun _ => (-1)))), (rv5, .inl (rc5, 100, .inl (fun _ => 0))), (rv6, .inl (rc6, 100, .inl (fun _ => 0)))] s.heap.size = A at hD hX ⊢
  have hA : ∀ q : Nat, s.heap.size ≤ q → A q := fun q h => by rw [← hAe]; exact Or.inr h
  have hS : va_S A s.heap s.heap [] := va_S.rf
  have hl := lv_entry ([.ref h0, .int co]) (n := 2) (Nat.le_of_ble_eq_true rfl)
  rw [lg_entry_eq]
  generalize (lg_sl ([.ref h0, .int co]) ++ List.replicate (2 - (lg_sl ([.ref h0, .int co])).length) Slot.unset).toArray = ls at hl ⊢
  have hl : lv_has ls 2 [(0, .ref h0), (1, .int co)] := hl
  have hP : va_P D vwCl [(h0, .inr (8, [.ref tp, .ref rd, .ref dr, .ref fa, .ref ly, .ref wy])), (fa, .inr (3, [.ref cu, .ref rv, .ref bt, .int 0, .int 0, .int 0])), (cu, .inr (1, [.ref cu1, .ref cu2, .ref cu3, .ref cu4, .int 0, .int 0])), (cu1, .inl (cc1, 8, .inl uF)), (rv, .inr (5, [.int 5, .int 5, .ref rv1, .ref rv2, .ref rv3, .ref rv4, .ref rv5, .ref rv6])), (rv1, .inl (rc1, 100, .inl (fun _ => 0))), (rv2, .inl (rc2, 100, .inl (fun _ => 0))), (rv3, .inl (rc3, 100, .inl (fun _ => 0))), (rv4, .inl (rc4, 100, .inl (fun _ => (-1)))), (rv5, .inl (rc5, 100, .inl (fun _ => 0))), (rv6, .inl (rc6, 100, .inl (fun _ => 0)))] s.heap := hP
  refine lv_iload_n hx hb dX9_hour_0 rfl (lv_at hl 1 rfl) ?_
  refine lv_bipush (v := -9) hx hb dX9_hour_1 (by decide) ?_
  refine lv_icmp_lt (tgt := 12) hx hb dX9_hour_3 (by decide) (fun c_1 => ?_) (fun c_1 => ?_)
  · skip
    refine lv_iconst (v := -1) hx hb dX9_hour_12 (by decide) ?_
    have hP9 := hP.sub (ws' := []) [] rfl
    have hD9 := hD.sub (ws' := []) [] (by decide) rfl
    have hK9 := hK.sub (tys' := []) [] rfl
    refine W.widen (k := 0) (n := 0) (by decide) (by decide) ?_
    exact W.iret (v := (-1)) hx hb hr (fun t ht hW => ⟨⟨((-1)), (), rfl, by simp only [c_1, or_false, false_or, or_true, true_or, not_true_eq_false, not_false_eq_true, ↓reduceIte], by rw [ht]; exact hP9, va_K.moved hW.alike hK9, hD9⟩, hS.F ht⟩) hS.2.2 dX9_hour_13
  · skip
    refine lv_iload_n hx hb dX9_hour_6 rfl (lv_at hl 1 rfl) ?_
    refine lv_bipush (v := 9) hx hb dX9_hour_7 (by decide) ?_
    refine lv_icmp_le (tgt := 14) hx hb dX9_hour_9 (by decide) (fun c_2 => ?_) (fun c_2 => ?_)
    · skip
      have c_2 := Int32.not_lt.mpr c_2
      refine lv_aload_n hx hb dX9_hour_14 rfl (lv_at hl 0 rfl) ?_
      refine va_get (D := D) (ci := 8) (v := .ref fa) (C := RX9) (T := TX9) (N := 6) hx hb hts inG_X9 hown hK hP 0 rfl rfl 3 (by decide) (hts _ kw_2_70) (fun _ h9 => h9) rfl dX9_hour_15 ?_
      refine lv_iload_n hx hb dX9_hour_18 rfl (lv_at hl 1 rfl) ?_
      refine mc_Vi (rest := []) (wr := [(h0, .inr (8, [.ref tp, .ref rd, .ref dr, .ref fa, .ref ly, .ref wy]))]) F hK hP hD hS hA (c_passHour0 l D fa cu rv bt cu1 cu2 cu3 cu4 rv1 rv2 rv3 rv4 rv5 rv6 cc1 rc1 rc2 rc3 rc4 rc5 rc6 (fun _ => 0) (fun _ => (-1)) 5 5 0 co 0 (fun _ => 0) (fun _ => 0) (fun _ => 0) (fun _ => 0) (by omega) (by omega)) ⟨gk_X9_127.1, gk_X9_127.2, Nat.le_of_ble_eq_true rfl, Nat.le_of_ble_eq_true rfl⟩ [1, 2, 3, 4, 5, 6, 7, 8, 9, 10] [0] [0, 1, 2, 3, 4, 5, 6] ⟨rfl, rfl, rfl, rfl, by decide⟩ rfl xT_move (fun _ _ _ => trivial) 1 rfl rfl rfl hl.1 rfl (Nat.le_of_ble_eq_true rfl) dX9_hour_19 ⟨Nat.le_of_ble_eq_true rfl, Nat.le_of_ble_eq_true rfl⟩ (fun r_3 _ H locs hw hK1 hP hD hS => ?_)
      have hP : va_P D vwCl [(h0, .inr (8, [.ref tp, .ref rd, .ref dr, .ref fa, .ref ly, .ref wy]))] H := hP
      have hD : va_D A [(h0, .inr (8, [.ref tp, .ref rd, .ref dr, .ref fa, .ref ly, .ref wy]))] := hD
      have hw_4 : r_3 = 0 := hw
      have hP9 := hP.sub (ws' := []) [] rfl
      have hD9 := hD.sub (ws' := []) [] (by decide) rfl
      have hK9 := hK.sub (tys' := []) [] rfl
      refine W.widen (k := 0) (n := 0) (by decide) (by decide) ?_
      exact W.iret (v := r_3) hx hb hr (fun t ht hW => ⟨⟨r_3, (), rfl, by rw [hw_4]; simp only [c_1, c_2, or_self, ↓reduceIte], by rw [ht]; exact hP9, va_K.moved hW.alike hK9, hD9⟩, hS.F ht⟩) hS.2.2 dX9_hour_22
    · skip
      have c_2 := Int32.not_le.mp c_2
      refine lv_iconst (v := -1) hx hb dX9_hour_12 (by decide) ?_
      have hP9 := hP.sub (ws' := []) [] rfl
      have hD9 := hD.sub (ws' := []) [] (by decide) rfl
      have hK9 := hK.sub (tys' := []) [] rfl
      refine W.widen (k := 0) (n := 0) (by decide) (by decide) ?_
      exact W.iret (v := (-1)) hx hb hr (fun t ht hW => ⟨⟨((-1)), (), rfl, by simp only [c_1, c_2, or_false, false_or, or_true, true_or, not_true_eq_false, not_false_eq_true, ↓reduceIte], by rw [ht]; exact hP9, va_K.moved hW.alike hK9, hD9⟩, hS.F ht⟩) hS.2.2 dX9_hour_13
