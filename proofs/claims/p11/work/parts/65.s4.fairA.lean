set_option maxHeartbeats 4000000 in
set_option maxRecDepth 100000 in
theorem s_cu_apart (l : Launch) (D : va_G) (ru : Nat → Nat) (cu : Nat) (cu1 : Nat) (cu2 : Nat) (cu3 : Nat) (cu4 : Nat) (cc1 : ClassId) (cf1 : Nat → Int32) (sc : Int32) (to : Int32) (hcu : ∀ q, q < 8 → cf1 q = nI (ru q)) : cI l yX1_apart (.code yX1_apart cX1_apart 1 (some .int)) ({ frames := 0, cells := 0, slots := 0, locals := 0 }) D [(cc1, .int)] [(cu, Sum.inr (1, [Value.ref cu1, Value.ref cu2, Value.ref cu3, Value.ref cu4, Value.int sc, Value.int to])), (cu1, Sum.inl (cc1, 8, Sum.inl cf1))] xT [Value.ref cu] (S := Unit) (fun r _ => r = nI (ru 3)) (fun _ => []) (fun _ => [(cu, Sum.inr (1, [Value.ref cu1, Value.ref cu2, Value.ref cu3, Value.ref cu4, Value.int sc, Value.int to])), (cu1, Sum.inl (cc1, 8, Sum.inl cf1))]) := by
  intro sz
  refine Met.ofW (cc := cX1_apart) (maxL := 1) (ret := (some .int)) (by decide) rfl ?_
  intro p e s m args below meth c s₁ B hml hv
  obtain ⟨rfl, hsz, hP, hK, hD0, hX⟩ := hv
  have hx := B.exec
  have hb := B.bytes
  have hr := B.returns
  have hts0 := atoms_spec (ws := .code yX1_apart cX1_apart 1 (some .int) :: gw) B.pre
  have hts := fun (w : Cond) (h : w ∈ gw) => hts0 w (List.mem_cons_of_mem _ h)
  have hown : s.vm.findClass RX1 = some m.cls := findClass_of_methodNamed B.named
  have hlocks := B.notSynchronized
  have F : mFix p s m _ c cX1_apart 1 RX1 := ⟨hx, hb, hml, hown, hts⟩
  subst hsz
  have hD := hD0.self (sz := s.heap.size)
  generalize hAe : va_A [(cu, Sum.inr (1, [Value.ref cu1, Value.ref cu2, Value.ref cu3, Value.ref cu4, Value.int sc, Value.int to])), (cu1, Sum.inl (cc1, 8, Sum.inl cf1))] s.heap.size = A at hD hX ⊢
  have hA : ∀ q : Nat, s.heap.size ≤ q → A q := fun q h => by rw [← hAe]; exact Or.inr h
  have hS : va_S A s.heap s.heap [] := va_S.rf
  have hl := lv_entry ([Value.ref cu]) (n := 1) (Nat.le_of_ble_eq_true rfl)
  rw [lg_entry_eq]
  generalize (lg_sl ([Value.ref cu]) ++ List.replicate (1 - (lg_sl ([Value.ref cu])).length) Slot.unset).toArray = ls at hl ⊢
  have hl : lv_has ls 1 [(0, Value.ref cu)] := hl
  have hP : va_P D vwCl [(cu, Sum.inr (1, [Value.ref cu1, Value.ref cu2, Value.ref cu3, Value.ref cu4, Value.int sc, Value.int to])), (cu1, Sum.inl (cc1, 8, Sum.inl cf1))] s.heap := hP
  refine lv_aload_n hx hb dX1_apart_0 rfl (lv_at hl 0 rfl) ?_
  refine va_get (D := D) (ci := 1) (v := Value.ref cu1) (C := RX1) (T := TX1) (N := 6) hx hb hts inG_X1 hown hK hP 0 rfl rfl 0 (by decide) (hts _ kw_1_99) (fun _ h9 => h9) rfl dX1_apart_1 ?_
  refine lv_iconst (v := 3) hx hb dX1_apart_4 (by decide) ?_
  refine m_iald hx hb hK hP 1 0 rfl rfl 3 rfl (by decide) (by decide) dX1_apart_5 ?_
  refine lv_topi (fun v_1 ev_1 => ?_)
  have hP9 := hP.sub (ws' := [(cu, Sum.inr (1, [Value.ref cu1, Value.ref cu2, Value.ref cu3, Value.ref cu4, Value.int sc, Value.int to])), (cu1, Sum.inl (cc1, 8, Sum.inl cf1))]) [0, 1] rfl
  have hD9 := hD.sub (ws' := [(cu, Sum.inr (1, [Value.ref cu1, Value.ref cu2, Value.ref cu3, Value.ref cu4, Value.int sc, Value.int to])), (cu1, Sum.inl (cc1, 8, Sum.inl cf1))]) [0, 1] (by decide) rfl
  have hK9 := hK.sub (tys' := []) [] rfl
  refine W.widen (k := 0) (n := 0) (by decide) (by decide) ?_
  exact W.iret (v := v_1) hx hb hr (fun t ht hW => ⟨⟨v_1, (), rfl, (ev_1.trans (hcu 3 (by decide))), by rw [ht]; exact hP9, va_K.moved hW.alike hK9, hD9⟩, hS.F ht⟩) hS.2.2 dX1_apart_6
set_option maxHeartbeats 4000000 in
set_option maxRecDepth 100000 in
theorem s_cu_near (l : Launch) (D : va_G) (ru : Nat → Nat) (cu : Nat) (cu1 : Nat) (cu2 : Nat) (cu3 : Nat) (cu4 : Nat) (cc1 : ClassId) (cf1 : Nat → Int32) (sc : Int32) (to : Int32) (hcu : ∀ q, q < 8 → cf1 q = nI (ru q)) : cI l yX1_near (.code yX1_near cX1_near 1 (some .int)) ({ frames := 0, cells := 0, slots := 0, locals := 0 }) D [(cc1, .int)] [(cu, Sum.inr (1, [Value.ref cu1, Value.ref cu2, Value.ref cu3, Value.ref cu4, Value.int sc, Value.int to])), (cu1, Sum.inl (cc1, 8, Sum.inl cf1))] xT [Value.ref cu] (S := Unit) (fun r _ => r = nI (ru 4)) (fun _ => []) (fun _ => [(cu, Sum.inr (1, [Value.ref cu1, Value.ref cu2, Value.ref cu3, Value.ref cu4, Value.int sc, Value.int to])), (cu1, Sum.inl (cc1, 8, Sum.inl cf1))]) := by
  intro sz
  refine Met.ofW (cc := cX1_near) (maxL := 1) (ret := (some .int)) (by decide) rfl ?_
  intro p e s m args below meth c s₁ B hml hv
  obtain ⟨rfl, hsz, hP, hK, hD0, hX⟩ := hv
  have hx := B.exec
  have hb := B.bytes
  have hr := B.returns
  have hts0 := atoms_spec (ws := .code yX1_near cX1_near 1 (some .int) :: gw) B.pre
  have hts := fun (w : Cond) (h : w ∈ gw) => hts0 w (List.mem_cons_of_mem _ h)
  have hown : s.vm.findClass RX1 = some m.cls := findClass_of_methodNamed B.named
  have hlocks := B.notSynchronized
  have F : mFix p s m _ c cX1_near 1 RX1 := ⟨hx, hb, hml, hown, hts⟩
  subst hsz
  have hD := hD0.self (sz := s.heap.size)
  generalize hAe : va_A [(cu, Sum.inr (1, [Value.ref cu1, Value.ref cu2, Value.ref cu3, Value.ref cu4, Value.int sc, Value.int to])), (cu1, Sum.inl (cc1, 8, Sum.inl cf1))] s.heap.size = A at hD hX ⊢
  have hA : ∀ q : Nat, s.heap.size ≤ q → A q := fun q h => by rw [← hAe]; exact Or.inr h
  have hS : va_S A s.heap s.heap [] := va_S.rf
  have hl := lv_entry ([Value.ref cu]) (n := 1) (Nat.le_of_ble_eq_true rfl)
  rw [lg_entry_eq]
  generalize (lg_sl ([Value.ref cu]) ++ List.replicate (1 - (lg_sl ([Value.ref cu])).length) Slot.unset).toArray = ls at hl ⊢
  have hl : lv_has ls 1 [(0, Value.ref cu)] := hl
  have hP : va_P D vwCl [(cu, Sum.inr (1, [Value.ref cu1, Value.ref cu2, Value.ref cu3, Value.ref cu4, Value.int sc, Value.int to])), (cu1, Sum.inl (cc1, 8, Sum.inl cf1))] s.heap := hP
  refine lv_aload_n hx hb dX1_near_0 rfl (lv_at hl 0 rfl) ?_
  refine va_get (D := D) (ci := 1) (v := Value.ref cu1) (C := RX1) (T := TX1) (N := 6) hx hb hts inG_X1 hown hK hP 0 rfl rfl 0 (by decide) (hts _ kw_1_99) (fun _ h9 => h9) rfl dX1_near_1 ?_
  refine lv_iconst (v := 4) hx hb dX1_near_4 (by decide) ?_
  refine m_iald hx hb hK hP 1 0 rfl rfl 4 rfl (by decide) (by decide) dX1_near_5 ?_
  refine lv_topi (fun v_1 ev_1 => ?_)
  have hP9 := hP.sub (ws' := [(cu, Sum.inr (1, [Value.ref cu1, Value.ref cu2, Value.ref cu3, Value.ref cu4, Value.int sc, Value.int to])), (cu1, Sum.inl (cc1, 8, Sum.inl cf1))]) [0, 1] rfl
  have hD9 := hD.sub (ws' := [(cu, Sum.inr (1, [Value.ref cu1, Value.ref cu2, Value.ref cu3, Value.ref cu4, Value.int sc, Value.int to])), (cu1, Sum.inl (cc1, 8, Sum.inl cf1))]) [0, 1] (by decide) rfl
  have hK9 := hK.sub (tys' := []) [] rfl
  refine W.widen (k := 0) (n := 0) (by decide) (by decide) ?_
  exact W.iret (v := v_1) hx hb hr (fun t ht hW => ⟨⟨v_1, (), rfl, (ev_1.trans (hcu 4 (by decide))), by rw [ht]; exact hP9, va_K.moved hW.alike hK9, hD9⟩, hS.F ht⟩) hS.2.2 dX1_near_6
set_option maxHeartbeats 4000000 in
set_option maxRecDepth 100000 in
theorem s_boothNumbered (l : Launch) (D : va_G) (bo : Nat → Nat) (fa : Nat) (cu : Nat) (rv : Nat) (bt : Nat) (bc : Nat) (ho : Int32) (fe : Int32) (bc9 : ClassId) (x : Int32) (hbc : bc ≤ 10) : cQ l yX3_boothNumbered (.code yX3_boothNumbered cX3_boothNumbered 2 (some (.object "IceFair$Booth"))) ({ frames := 0, cells := 0, slots := 0, locals := 0 }) D [(bc9, .object RX0)] [(fa, Sum.inr (3, [Value.ref cu, Value.ref rv, Value.ref bt, Value.int (nI bc), Value.int ho, Value.int fe])), (bt, Sum.inl (bc9, 10, Sum.inr (Sum.inr (Sum.inr (Sum.inr (fun j => some (bo j)))))))] xT [Value.ref fa, Value.int x] (S := Unit) (fun r _ => (r = none ∧ ∀ b, b < bc → ¬ x = nI b) ∨ ∃ j : Nat, j < bc ∧ x = nI j ∧ r = some (bo j)) (fun _ => []) (fun _ => [(fa, Sum.inr (3, [Value.ref cu, Value.ref rv, Value.ref bt, Value.int (nI bc), Value.int ho, Value.int fe])), (bt, Sum.inl (bc9, 10, Sum.inr (Sum.inr (Sum.inr (Sum.inr (fun j => some (bo j)))))))]) := by
  intro sz
  refine Met.ofW (cc := cX3_boothNumbered) (maxL := 2) (ret := (some (.object "IceFair$Booth"))) (by decide) rfl ?_
  intro p e s m args below meth c s₁ B hml hv
  obtain ⟨rfl, hsz, hP, hK, hD0, hX⟩ := hv
  have hx := B.exec
  have hb := B.bytes
  have hr := B.returns
  have hts0 := atoms_spec (ws := .code yX3_boothNumbered cX3_boothNumbered 2 (some (.object "IceFair$Booth")) :: gw) B.pre
  have hts := fun (w : Cond) (h : w ∈ gw) => hts0 w (List.mem_cons_of_mem _ h)
  have hown : s.vm.findClass RX3 = some m.cls := findClass_of_methodNamed B.named
  have hlocks := B.notSynchronized
  have F : mFix p s m _ c cX3_boothNumbered 2 RX3 := ⟨hx, hb, hml, hown, hts⟩
  subst hsz
  have hD := hD0.self (sz := s.heap.size)
  generalize hAe : va_A [(fa, Sum.inr (3, [Value.ref cu, Value.ref rv, Value.ref bt, Value.int (nI bc), Value.int ho, Value.int fe])), (bt, Sum.inl (bc9, 10, Sum.inr (Sum.inr (Sum.inr (Sum.inr (fun j => some (bo j)))))))] s.heap.size = A at hD hX ⊢
  have hA : ∀ q : Nat, s.heap.size ≤ q → A q := fun q h => by rw [← hAe]; exact Or.inr h
  have hS : va_S A s.heap s.heap [] := va_S.rf
  have hl := lv_entry ([Value.ref fa, Value.int x]) (n := 2) (Nat.le_of_ble_eq_true rfl)
  rw [lg_entry_eq]
  generalize (lg_sl ([Value.ref fa, Value.int x]) ++ List.replicate (2 - (lg_sl ([Value.ref fa, Value.int x])).length) Slot.unset).toArray = ls at hl ⊢
  have hl : lv_has ls 2 [(0, Value.ref fa), (1, Value.int x)] := hl
  have hP : va_P D vwCl [(fa, Sum.inr (3, [Value.ref cu, Value.ref rv, Value.ref bt, Value.int (nI bc), Value.int ho, Value.int fe])), (bt, Sum.inl (bc9, 10, Sum.inr (Sum.inr (Sum.inr (Sum.inr (fun j => some (bo j)))))))] s.heap := hP
  refine lv_iload_n hx hb dX3_boothNumbered_0 rfl (lv_at hl 1 rfl) ?_
  refine lv_if_lt (tgt := 18) hx hb dX3_boothNumbered_1 (by decide) (fun c_1 => ?_) (fun c_1 => ?_)
  · skip
    refine lv_null hx hb dX3_boothNumbered_18 ?_
    have hP9 := hP.sub (ws' := [(fa, Sum.inr (3, [Value.ref cu, Value.ref rv, Value.ref bt, Value.int (nI bc), Value.int ho, Value.int fe])), (bt, Sum.inl (bc9, 10, Sum.inr (Sum.inr (Sum.inr (Sum.inr (fun j => some (bo j)))))))]) [0, 1] rfl
    have hD9 := hD.sub (ws' := [(fa, Sum.inr (3, [Value.ref cu, Value.ref rv, Value.ref bt, Value.int (nI bc), Value.int ho, Value.int fe])), (bt, Sum.inl (bc9, 10, Sum.inr (Sum.inr (Sum.inr (Sum.inr (fun j => some (bo j)))))))]) [0, 1] (by decide) rfl
    have hK9 := hK.sub (tys' := []) [] rfl
    refine W.widen (k := 0) (n := 0) (by decide) (by decide) ?_
    exact W.aret (v := Value.null) hx hb hr (Or.inl ⟨_, rfl⟩) (Or.inl rfl) (fun t ht hW => ⟨⟨none, (), rfl, Or.inl ⟨rfl, fun b hb q => absurd c_1 (by rw [q]; exact nI_pos (by omega))⟩, by rw [ht]; exact hP9, va_K.moved hW.alike hK9, hD9⟩, hS.F ht⟩) hS.2.2 dX3_boothNumbered_19
  · skip
    refine lv_iload_n hx hb dX3_boothNumbered_4 rfl (lv_at hl 1 rfl) ?_
    refine lv_aload_n hx hb dX3_boothNumbered_5 rfl (lv_at hl 0 rfl) ?_
    refine va_get (D := D) (ci := 3) (v := Value.int (nI bc)) (C := RX3) (T := TX3) (N := 6) hx hb hts inG_X3 hown hK hP 0 rfl rfl 3 (by decide) (hts _ kw_1_226) (fun _ h9 => h9) rfl dX3_boothNumbered_6 ?_
    refine lv_icmp_ge (tgt := 18) hx hb dX3_boothNumbered_9 (by decide) (fun c_2 => ?_) (fun c_2 => ?_)
    · skip
      have c_2 := Int32.not_lt.mpr c_2
      refine lv_null hx hb dX3_boothNumbered_18 ?_
      have hP9 := hP.sub (ws' := [(fa, Sum.inr (3, [Value.ref cu, Value.ref rv, Value.ref bt, Value.int (nI bc), Value.int ho, Value.int fe])), (bt, Sum.inl (bc9, 10, Sum.inr (Sum.inr (Sum.inr (Sum.inr (fun j => some (bo j)))))))]) [0, 1] rfl
      have hD9 := hD.sub (ws' := [(fa, Sum.inr (3, [Value.ref cu, Value.ref rv, Value.ref bt, Value.int (nI bc), Value.int ho, Value.int fe])), (bt, Sum.inl (bc9, 10, Sum.inr (Sum.inr (Sum.inr (Sum.inr (fun j => some (bo j)))))))]) [0, 1] (by decide) rfl
      have hK9 := hK.sub (tys' := []) [] rfl
      refine W.widen (k := 0) (n := 0) (by decide) (by decide) ?_
      exact W.aret (v := Value.null) hx hb hr (Or.inl ⟨_, rfl⟩) (Or.inl rfl) (fun t ht hW => ⟨⟨none, (), rfl, Or.inl ⟨rfl, fun b hb q => c_2 (by rw [q]; exact (nI_ltI (by omega) (by omega)).mpr hb)⟩, by rw [ht]; exact hP9, va_K.moved hW.alike hK9, hD9⟩, hS.F ht⟩) hS.2.2 dX3_boothNumbered_19
    · skip
      have c_2 := Int32.not_le.mp c_2
      obtain ⟨jx, hjx, ejx⟩ := n_lt c_1 (Int32.not_le.mpr c_2) (by omega)
      subst ejx
      have hl : lv_has ls 2 [(0, Value.ref fa), (1, Value.int (nI jx))] := hl
      refine lv_iload_n hx hb dX3_boothNumbered_12 rfl (lv_at hl 1 rfl) ?_
      refine lv_bipush (v := 10) hx hb dX3_boothNumbered_13 (by decide) ?_
      refine lv_icmp_lt (tgt := 20) hx hb dX3_boothNumbered_15 (by decide) (fun c_3 => ?_) (fun c_3 => absurd ((nI_ltI (a := jx) (b := 10) (by omega) (by decide)).mpr (by omega)) c_3)
      have c_3n : jx < 10 := (nI_ltI (by omega) (by omega)).mp c_3
      refine lv_aload_n hx hb dX3_boothNumbered_20 rfl (lv_at hl 0 rfl) ?_
      refine va_get (D := D) (ci := 3) (v := Value.ref bt) (C := RX3) (T := TX3) (N := 6) hx hb hts inG_X3 hown hK hP 0 rfl rfl 2 (by decide) (hts _ kw_1_223) (fun _ h9 => h9) rfl dX3_boothNumbered_21 ?_
      refine lv_iload_n hx hb dX3_boothNumbered_24 rfl (lv_at hl 1 rfl) ?_
      refine m_aald hx hb hK hP 1 0 rfl rfl jx rfl (by omega) (by decide) dX3_boothNumbered_25 ?_
      refine W.eq (g2 := F0 m 26 ls [Value.ref (bo jx)]) rfl ?_
      have hP9 := hP.sub (ws' := [(fa, Sum.inr (3, [Value.ref cu, Value.ref rv, Value.ref bt, Value.int (nI bc), Value.int ho, Value.int fe])), (bt, Sum.inl (bc9, 10, Sum.inr (Sum.inr (Sum.inr (Sum.inr (fun j => some (bo j)))))))]) [0, 1] rfl
      have hD9 := hD.sub (ws' := [(fa, Sum.inr (3, [Value.ref cu, Value.ref rv, Value.ref bt, Value.int (nI bc), Value.int ho, Value.int fe])), (bt, Sum.inl (bc9, 10, Sum.inr (Sum.inr (Sum.inr (Sum.inr (fun j => some (bo j)))))))]) [0, 1] (by decide) rfl
      have hK9 := hK.sub (tys' := []) [] rfl
      refine W.widen (k := 0) (n := 0) (by decide) (by decide) ?_
      exact W.aret (v := Value.ref (bo jx)) hx hb hr (Or.inl ⟨_, rfl⟩) (Or.inr ⟨_, rfl⟩) (fun t ht hW => ⟨⟨(some (bo jx)), (), rfl, Or.inr ⟨jx, hjx, rfl, rfl⟩, by rw [ht]; exact hP9, va_K.moved hW.alike hK9, hD9⟩, hS.F ht⟩) hS.2.2 dX3_boothNumbered_26
set_option maxHeartbeats 4000000 in
set_option maxRecDepth 100000 in
theorem lp_s_hasFire {p : Program} {l : Launch} {e : Env} {s : State} {m : MethodId} {args : Array Value} {below : List Frame} {meth : Method} {c : Code} {Q : State → Prop} {A : Nat → Prop} {D : va_G} (F : mFix p s m args c cX3_hasFireNearerThan 6 RX3) (hA : ∀ q, s.heap.size ≤ q → A q) (bo : Nat → Nat) (B1 : Nat → Int32) (B2 : Nat → Int32) (B3 : Nat → Int32) (B4 : Nat → Int32) (B5 : Nat → Int32) (B6 : Nat → Int32) (B7 : Nat → Int32) (fa : Nat) (cu : Nat) (rv : Nat) (bt : Nat) (bc : Nat) (ho : Int32) (fe : Int32) (bc9 : ClassId) (fn : Nat) (ci : Nat) (cj : Nat) (wh : Nat → Nat) (w : Nat) (h : Nat) (hK : va_K D vwCl [(bc9, .object RX0)] s)
    (kx_72 : (firP bc B3 B5 wh fn (cj * 10 + ci)) → ∀ (H : Heap) (locs : List Loc), va_P D vwCl (bL bo B1 B2 B3 B4 B5 B6 B7 ++ ([(fa, Sum.inr (3, [Value.ref cu, Value.ref rv, Value.ref bt, Value.int (nI bc), Value.int ho, Value.int fe])), (bt, Sum.inl (bc9, 10, Sum.inr (Sum.inr (Sum.inr (Sum.inr (fun j => some (bo j)))))))] : va_W)) H → va_D A (bL bo B1 B2 B3 B4 B5 B6 B7 ++ ([(fa, Sum.inr (3, [Value.ref cu, Value.ref rv, Value.ref bt, Value.int (nI bc), Value.int ho, Value.int fe])), (bt, Sum.inl (bc9, 10, Sum.inr (Sum.inr (Sum.inr (Sum.inr (fun j => some (bo j)))))))] : va_W)) → va_S A s.heap H locs → ∀ ls : Array Slot, lv_has ls 6 [] → W p l e ({ frames := 1, cells := 0, slots := 0, locals := 60 }) s m args below meth c H locs 0 0 Q (F0 m 72 ls []))
    (kx_80 : (∀ b, b < bc → B5 b = 1 → ¬ B3 b = 0 → ¬ nrP (wh b) (cj * 10 + ci) fn) → ∀ (H : Heap) (locs : List Loc), va_P D vwCl (bL bo B1 B2 B3 B4 B5 B6 B7 ++ ([(fa, Sum.inr (3, [Value.ref cu, Value.ref rv, Value.ref bt, Value.int (nI bc), Value.int ho, Value.int fe])), (bt, Sum.inl (bc9, 10, Sum.inr (Sum.inr (Sum.inr (Sum.inr (fun j => some (bo j)))))))] : va_W)) H → va_D A (bL bo B1 B2 B3 B4 B5 B6 B7 ++ ([(fa, Sum.inr (3, [Value.ref cu, Value.ref rv, Value.ref bt, Value.int (nI bc), Value.int ho, Value.int fe])), (bt, Sum.inl (bc9, 10, Sum.inr (Sum.inr (Sum.inr (Sum.inr (fun j => some (bo j)))))))] : va_W)) → va_S A s.heap H locs → ∀ ls : Array Slot, lv_has ls 6 [] → W p l e ({ frames := 1, cells := 0, slots := 0, locals := 60 }) s m args below meth c H locs 0 0 Q (F0 m 80 ls [])) :
    ∀ n : Nat, ∀ (i : Nat), (i ≤ bc) → (bc ≤ 10) → (fn ≤ 9) → (CB bc w h B1 B5 B6 B7 wh) → (w ≤ 10) → (h ≤ 10) → (ci < 10) → (cj < 10) → (∀ b, b < i → B5 b = 1 → ¬ B3 b = 0 → ¬ nrP (wh b) (cj * 10 + ci) fn) → (bc - i) < n → ∀ (H : Heap) (locs : List Loc), va_P D vwCl (bL bo B1 B2 B3 B4 B5 B6 B7 ++ ([(fa, Sum.inr (3, [Value.ref cu, Value.ref rv, Value.ref bt, Value.int (nI bc), Value.int ho, Value.int fe])), (bt, Sum.inl (bc9, 10, Sum.inr (Sum.inr (Sum.inr (Sum.inr (fun j => some (bo j)))))))] : va_W)) H → va_D A (bL bo B1 B2 B3 B4 B5 B6 B7 ++ ([(fa, Sum.inr (3, [Value.ref cu, Value.ref rv, Value.ref bt, Value.int (nI bc), Value.int ho, Value.int fe])), (bt, Sum.inl (bc9, 10, Sum.inr (Sum.inr (Sum.inr (Sum.inr (fun j => some (bo j)))))))] : va_W)) → va_S A s.heap H locs → ∀ ls : Array Slot, lv_has ls 6 [(0, Value.ref fa), (1, Value.int (nI fn)), (2, Value.int (nI ci)), (3, Value.int (nI cj)), (4, Value.int (nI i))] → W p l e ({ frames := 1, cells := 0, slots := 0, locals := 60 }) s m args below meth c H locs 0 0 Q (F0 m 3 ls []) := by
  intro n
  induction n with
  | zero => intro i hi hbc hfn hCB h3 h4 hci hcj hnf hn; exact absurd hn (Nat.not_lt_zero _)
  | succ n ih =>
    intro i hi hbc hfn hCB h3 h4 hci hcj hnf hn H locs hP hD hS ls hl
    obtain ⟨hx, hb, hml, hown, hts⟩ := id F
    refine lv_iload hx hb dX3_hasFireNearerThan_3 (lv_at hl 4 rfl) ?_
    refine lv_aload_n hx hb dX3_hasFireNearerThan_5 rfl (lv_at hl 0 rfl) ?_
    refine va_get (D := D) (ci := 3) (v := Value.int (nI bc)) (C := RX3) (T := TX3) (N := 6) hx hb hts inG_X3 hown hK hP 10 rfl rfl 3 (by decide) (hts _ kw_1_226) (fun _ h9 => h9) rfl dX3_hasFireNearerThan_6 ?_
    refine lv_icmp_ge (tgt := 80) hx hb dX3_hasFireNearerThan_9 (by decide) (fun c_1 => ?_) (fun c_1 => ?_)
    · skip
      have c_1n : bc ≤ i := (nI_leI (by omega) (by omega)).mp c_1
      have c_1 := Int32.not_lt.mpr c_1
      exact kx_80  (fun b hb => hnf b (by omega)) H locs (hP.sub [0, 1, 2, 3, 4, 5, 6, 7, 8, 9, 10, 11] rfl) (hD.sub [0, 1, 2, 3, 4, 5, 6, 7, 8, 9, 10, 11] (by decide) rfl) hS ls (lv_sub hl [] rfl)
    · skip
      have c_1n : i < bc := nb_le (by omega) (by omega) c_1
      have c_1 := Int32.not_le.mp c_1
      refine lv_iload hx hb dX3_hasFireNearerThan_12 (lv_at hl 4 rfl) ?_
      refine lv_bipush (v := 10) hx hb dX3_hasFireNearerThan_14 (by decide) ?_
      refine lv_icmp_ge (tgt := 80) hx hb dX3_hasFireNearerThan_16 (by decide) (fun c_2 => ?_) (fun c_2 => ?_)
      · skip
        have c_2n : 10 ≤ i := (nI_leI (by omega) (by omega)).mp c_2
        have c_2 := Int32.not_lt.mpr c_2
        exact kx_80  (fun b hb => hnf b (by omega)) H locs (hP.sub [0, 1, 2, 3, 4, 5, 6, 7, 8, 9, 10, 11] rfl) (hD.sub [0, 1, 2, 3, 4, 5, 6, 7, 8, 9, 10, 11] (by decide) rfl) hS ls (lv_sub hl [] rfl)
      · skip
        have c_2n : i < 10 := nb_le (by omega) (by omega) c_2
        have c_2 := Int32.not_le.mp c_2
        refine lv_aload_n hx hb dX3_hasFireNearerThan_19 rfl (lv_at hl 0 rfl) ?_
        refine va_get (D := D) (ci := 3) (v := Value.ref bt) (C := RX3) (T := TX3) (N := 6) hx hb hts inG_X3 hown hK hP 10 rfl rfl 2 (by decide) (hts _ kw_1_223) (fun _ h9 => h9) rfl dX3_hasFireNearerThan_20 ?_
        refine lv_iload hx hb dX3_hasFireNearerThan_23 (lv_at hl 4 rfl) ?_
        refine m_aald hx hb hK hP 11 0 rfl rfl i rfl (by omega) (by decide) dX3_hasFireNearerThan_25 ?_
        refine W.eq (g2 := F0 m 26 ls [Value.ref (bo i)]) rfl ?_
        refine lv_astore (lv' := [(5, Value.ref (bo i)), (0, Value.ref fa), (1, Value.int (nI fn)), (2, Value.int (nI ci)), (3, Value.int (nI cj)), (4, Value.int (nI i))]) hx hb dX3_hasFireNearerThan_26 hl (by decide) rfl (fun ls hl => ?_)
        refine lv_aload hx hb dX3_hasFireNearerThan_28 (lv_at hl 0 rfl) ?_
        refine va_get (D := D) (ci := 0) (v := .int (B5 i)) (C := RX0) (T := TX0) (N := 7) hx hb hts inG_X0 hown hK hP i (bL_get (by omega)) rfl 4 (by decide) (hts _ kw_1_192) (fun _ h9 => h9) rfl dX3_hasFireNearerThan_30 ?_
        refine lv_iconst (v := 1) hx hb dX3_hasFireNearerThan_33 (by decide) ?_
        refine lv_icmp_ne (tgt := 74) hx hb dX3_hasFireNearerThan_34 (by decide) (fun c_3 => ?_) (fun c_3 => ?_)
        · skip
          refine lv_iinc (v := nI (i + 1)) (lv' := [(4, Value.int (nI (i + 1))), (5, Value.ref (bo i)), (0, Value.ref fa), (1, Value.int (nI fn)), (2, Value.int (nI ci)), (3, Value.int (nI cj))]) hx hb dX3_hasFireNearerThan_74 hl (k := 5) rfl (nI_add i 1) (by decide) rfl (fun ls hl => ?_)
          refine lv_goto (tgt := 3) hx hb dX3_hasFireNearerThan_77 (by decide) ?_
          exact ih (i + 1) (by omega) (by omega) (by omega) hCB (by omega) (by omega) (by omega) (by omega) (fun b hb s1 s2 => by rcases (show b < i ∨ b = i by omega) with q | rfl; exact hnf b q s1 s2; exact absurd s1 c_3) (by omega) H locs (hP.sub [0, 1, 2, 3, 4, 5, 6, 7, 8, 9, 10, 11] rfl) (hD.sub [0, 1, 2, 3, 4, 5, 6, 7, 8, 9, 10, 11] (by decide) rfl) hS ls (lv_sub hl [2, 3, 4, 5, 0] rfl)
        · skip
          have hx9 := (hCB i (by omega)).2.2.1 c_3
          refine lv_aload hx hb dX3_hasFireNearerThan_37 (lv_at hl 0 rfl) ?_
          refine va_get (D := D) (ci := 0) (v := .int (B3 i)) (C := RX0) (T := TX0) (N := 7) hx hb hts inG_X0 hown hK hP i (bL_get (by omega)) rfl 2 (by decide) (hts _ kw_1_187) (fun _ h9 => h9) rfl dX3_hasFireNearerThan_39 ?_
          refine lv_if_eq (tgt := 74) hx hb dX3_hasFireNearerThan_42 (by decide) (fun c_4 => ?_) (fun c_4 => ?_)
          · skip
            refine lv_iinc (v := nI (i + 1)) (lv' := [(4, Value.int (nI (i + 1))), (5, Value.ref (bo i)), (0, Value.ref fa), (1, Value.int (nI fn)), (2, Value.int (nI ci)), (3, Value.int (nI cj))]) hx hb dX3_hasFireNearerThan_74 hl (k := 5) rfl (nI_add i 1) (by decide) rfl (fun ls hl => ?_)
            refine lv_goto (tgt := 3) hx hb dX3_hasFireNearerThan_77 (by decide) ?_
            exact ih (i + 1) (by omega) (by omega) (by omega) hCB (by omega) (by omega) (by omega) (by omega) (fun b hb s1 s2 => by rcases (show b < i ∨ b = i by omega) with q | rfl; exact hnf b q s1 s2; exact absurd c_4 s2) (by omega) H locs (hP.sub [0, 1, 2, 3, 4, 5, 6, 7, 8, 9, 10, 11] rfl) (hD.sub [0, 1, 2, 3, 4, 5, 6, 7, 8, 9, 10, 11] (by decide) rfl) hS ls (lv_sub hl [2, 3, 4, 5, 0] rfl)
          · skip
            refine lv_aload hx hb dX3_hasFireNearerThan_45 (lv_at hl 0 rfl) ?_
            refine va_get (D := D) (ci := 0) (v := .int (B6 i)) (C := RX0) (T := TX0) (N := 7) hx hb hts inG_X0 hown hK hP i (bL_get (by omega)) rfl 5 (by decide) (hts _ kw_1_195) (fun _ h9 => h9) rfl dX3_hasFireNearerThan_47 ?_
            rw [hx9.2.2.1]
            refine lv_iload_n hx hb dX3_hasFireNearerThan_50 rfl (lv_at hl 3 rfl) ?_
            refine lv_isub hx hb dX3_hasFireNearerThan_51 ?_
            refine lv_topi (fun z_5 ez_5 => ?_)
            refine va_mabs hx hb (by rw [hml]; exact hl.1.symm) hown (hts _ kw_3_79) (hts _ kw_3_80) (hts _ kw_1_12) (hts _ kw_3_81) (Nat.le_of_ble_eq_true rfl) (Nat.le_of_ble_eq_true rfl) (Nat.le_of_ble_eq_true rfl) (Nat.le_of_ble_eq_true rfl) dX3_hasFireNearerThan_52 ?_
            refine lv_topi (fun z_6 ez_6 => ?_)
            have hqz_6 : dfN (wh i % 10) ci ≤ 20 := by unfold dfN; omega
            obtain rfl : z_6 = nI (dfN (wh i % 10) ci) := ez_6.trans (abs_nI (by omega) (by omega) ez_5)
            refine lv_aload hx hb dX3_hasFireNearerThan_55 (lv_at hl 0 rfl) ?_
            refine va_get (D := D) (ci := 0) (v := .int (B7 i)) (C := RX0) (T := TX0) (N := 7) hx hb hts inG_X0 hown hK hP i (bL_get (by omega)) rfl 6 (by decide) (hts _ kw_1_198) (fun _ h9 => h9) rfl dX3_hasFireNearerThan_57 ?_
            rw [hx9.2.2.2]
            refine lv_iload_n hx hb dX3_hasFireNearerThan_60 rfl (lv_at hl 4 rfl) ?_
            refine lv_isub hx hb dX3_hasFireNearerThan_61 ?_
            refine lv_topi (fun z_7 ez_7 => ?_)
            refine va_mabs hx hb (by rw [hml]; exact hl.1.symm) hown (hts _ kw_3_79) (hts _ kw_3_80) (hts _ kw_1_12) (hts _ kw_3_81) (Nat.le_of_ble_eq_true rfl) (Nat.le_of_ble_eq_true rfl) (Nat.le_of_ble_eq_true rfl) (Nat.le_of_ble_eq_true rfl) dX3_hasFireNearerThan_62 ?_
            refine lv_topi (fun z_8 ez_8 => ?_)
            have hqz_8 : dfN (wh i / 10) cj ≤ 20 := by unfold dfN; omega
            obtain rfl : z_8 = nI (dfN (wh i / 10) cj) := ez_8.trans (abs_nI (by omega) (by omega) ez_7)
            refine va_mmax hx hb (by rw [hml]; exact hl.1.symm) hown (hts _ kw_3_82) (hts _ kw_3_83) (hts _ kw_1_12) (hts _ kw_3_84) (Nat.le_of_ble_eq_true rfl) (Nat.le_of_ble_eq_true rfl) (Nat.le_of_ble_eq_true rfl) (Nat.le_of_ble_eq_true rfl) dX3_hasFireNearerThan_65 ?_
            refine lv_topi (fun z_9 ez_9 => ?_)
            have hqz_9 : max (dfN (wh i % 10) ci) (dfN (wh i / 10) cj) ≤ 20 := Nat.max_le.mpr ⟨by omega, by omega⟩
            obtain rfl : z_9 = nI (max (dfN (wh i % 10) ci) (dfN (wh i / 10) cj)) := ez_9.trans (max_nI (by omega) (by omega))
            refine lv_iload_n hx hb dX3_hasFireNearerThan_68 rfl (lv_at hl 2 rfl) ?_
            refine lv_icmp_ge (tgt := 74) hx hb dX3_hasFireNearerThan_69 (by decide) (fun c_10 => ?_) (fun c_10 => ?_)
            · skip
              have c_10n : fn ≤ (max (dfN (wh i % 10) ci) (dfN (wh i / 10) cj)) := (nI_leI (by omega) (by omega)).mp c_10
              have c_10 := Int32.not_lt.mpr c_10
              refine lv_iinc (v := nI (i + 1)) (lv' := [(4, Value.int (nI (i + 1))), (5, Value.ref (bo i)), (0, Value.ref fa), (1, Value.int (nI fn)), (2, Value.int (nI ci)), (3, Value.int (nI cj))]) hx hb dX3_hasFireNearerThan_74 hl (k := 5) rfl (nI_add i 1) (by decide) rfl (fun ls hl => ?_)
              refine lv_goto (tgt := 3) hx hb dX3_hasFireNearerThan_77 (by decide) ?_
              exact ih (i + 1) (by omega) (by omega) (by omega) hCB (by omega) (by omega) (by omega) (by omega) (fun b hb s1 s2 => by rcases (show b < i ∨ b = i by omega) with q | rfl; exact hnf b q s1 s2; exact fun q => absurd ((nr_max hci).mpr q) (Nat.not_lt.mpr c_10n)) (by omega) H locs (hP.sub [0, 1, 2, 3, 4, 5, 6, 7, 8, 9, 10, 11] rfl) (hD.sub [0, 1, 2, 3, 4, 5, 6, 7, 8, 9, 10, 11] (by decide) rfl) hS ls (lv_sub hl [2, 3, 4, 5, 0] rfl)
            · skip
              have c_10n : (max (dfN (wh i % 10) ci) (dfN (wh i / 10) cj)) < fn := nb_le (by omega) (by omega) c_10
              have c_10 := Int32.not_le.mp c_10
              exact kx_72  (⟨i, by omega, c_3, c_4, (nr_max hci).mp c_10n⟩) H locs (hP.sub [0, 1, 2, 3, 4, 5, 6, 7, 8, 9, 10, 11] rfl) (hD.sub [0, 1, 2, 3, 4, 5, 6, 7, 8, 9, 10, 11] (by decide) rfl) hS ls (lv_sub hl [] rfl)
set_option maxHeartbeats 4000000 in
set_option maxRecDepth 100000 in
theorem s_hasFire (l : Launch) (D : va_G) (wh : Nat → Nat) (w : Nat) (h : Nat) (bo : Nat → Nat) (B1 : Nat → Int32) (B2 : Nat → Int32) (B3 : Nat → Int32) (B4 : Nat → Int32) (B5 : Nat → Int32) (B6 : Nat → Int32) (B7 : Nat → Int32) (fa : Nat) (cu : Nat) (rv : Nat) (bt : Nat) (bc : Nat) (ho : Int32) (fe : Int32) (bc9 : ClassId) (fn : Nat) (ci : Nat) (cj : Nat) (hbc : bc ≤ 10) (hfn : fn ≤ 9) (hCB : CB bc w h B1 B5 B6 B7 wh) (h3 : w ≤ 10) (h4 : h ≤ 10) (hci : ci < 10) (hcj : cj < 10) : cI l yX3_hasFireNearerThan (.code yX3_hasFireNearerThan cX3_hasFireNearerThan 6 (some .boolean)) ({ frames := 1, cells := 0, slots := 0, locals := 60 }) D [(bc9, .object RX0)] (bL bo B1 B2 B3 B4 B5 B6 B7 ++ ([(fa, Sum.inr (3, [Value.ref cu, Value.ref rv, Value.ref bt, Value.int (nI bc), Value.int ho, Value.int fe])), (bt, Sum.inl (bc9, 10, Sum.inr (Sum.inr (Sum.inr (Sum.inr (fun j => some (bo j)))))))] : va_W)) xT [Value.ref fa, Value.int (nI fn), Value.int (nI ci), Value.int (nI cj)] (S := Unit) (fun r _ => (r = 1 ∧ firP bc B3 B5 wh fn (cj * 10 + ci)) ∨ (r = 0 ∧ ¬ firP bc B3 B5 wh fn (cj * 10 + ci))) (fun _ => []) (fun _ => (bL bo B1 B2 B3 B4 B5 B6 B7 ++ ([(fa, Sum.inr (3, [Value.ref cu, Value.ref rv, Value.ref bt, Value.int (nI bc), Value.int ho, Value.int fe])), (bt, Sum.inl (bc9, 10, Sum.inr (Sum.inr (Sum.inr (Sum.inr (fun j => some (bo j)))))))] : va_W))) := by
  intro sz
  refine Met.ofW (cc := cX3_hasFireNearerThan) (maxL := 6) (ret := (some .boolean)) (by decide) rfl ?_
  intro p e s m args below meth c s₁ B hml hv
  obtain ⟨rfl, hsz, hP, hK, hD0, hX⟩ := hv
  have hx := B.exec
  have hb := B.bytes
  have hr := B.returns
  have hts0 := atoms_spec (ws := .code yX3_hasFireNearerThan cX3_hasFireNearerThan 6 (some .boolean) :: gw) B.pre
  have hts := fun (w : Cond) (h : w ∈ gw) => hts0 w (List.mem_cons_of_mem _ h)
  have hown : s.vm.findClass RX3 = some m.cls := findClass_of_methodNamed B.named
  have hlocks := B.notSynchronized
  have F : mFix p s m _ c cX3_hasFireNearerThan 6 RX3 := ⟨hx, hb, hml, hown, hts⟩
  subst hsz
  have hD := hD0.self (sz := s.heap.size)
  generalize hAe : va_A (bL bo B1 B2 B3 B4 B5 B6 B7 ++ ([(fa, Sum.inr (3, [Value.ref cu, Value.ref rv, Value.ref bt, Value.int (nI bc), Value.int ho, Value.int fe])), (bt, Sum.inl (bc9, 10, Sum.inr (Sum.inr (Sum.inr (Sum.inr (fun j => some (bo j)))))))] : va_W)) s.heap.size = A at hD hX ⊢
  have hA : ∀ q : Nat, s.heap.size ≤ q → A q := fun q h => by rw [← hAe]; exact Or.inr h
  have hS : va_S A s.heap s.heap [] := va_S.rf
  have hl := lv_entry ([Value.ref fa, Value.int (nI fn), Value.int (nI ci), Value.int (nI cj)]) (n := 6) (Nat.le_of_ble_eq_true rfl)
  rw [lg_entry_eq]
  generalize (lg_sl ([Value.ref fa, Value.int (nI fn), Value.int (nI ci), Value.int (nI cj)]) ++ List.replicate (6 - (lg_sl ([Value.ref fa, Value.int (nI fn), Value.int (nI ci), Value.int (nI cj)])).length) Slot.unset).toArray = ls at hl ⊢
  have hl : lv_has ls 6 [(0, Value.ref fa), (1, Value.int (nI fn)), (2, Value.int (nI ci)), (3, Value.int (nI cj))] := hl
  have hP : va_P D vwCl (bL bo B1 B2 B3 B4 B5 B6 B7 ++ ([(fa, Sum.inr (3, [Value.ref cu, Value.ref rv, Value.ref bt, Value.int (nI bc), Value.int ho, Value.int fe])), (bt, Sum.inl (bc9, 10, Sum.inr (Sum.inr (Sum.inr (Sum.inr (fun j => some (bo j)))))))] : va_W)) s.heap := hP
  refine lv_iconst (v := 0) hx hb dX3_hasFireNearerThan_0 (by decide) ?_
  refine lv_istore (lv' := [(4, Value.int 0), (0, Value.ref fa), (1, Value.int (nI fn)), (2, Value.int (nI ci)), (3, Value.int (nI cj))]) hx hb dX3_hasFireNearerThan_1 hl (by decide) rfl (fun ls hl => ?_)
  refine lp_s_hasFire F hA bo B1 B2 B3 B4 B5 B6 B7 fa cu rv bt bc ho fe bc9 fn ci cj wh w h (hK.sub [0] rfl) (fun  h_1 H locs hP hD hS ls hl => ?_) (fun  h_2 H locs hP hD hS ls hl => ?_) _ 0 (by omega) (by omega) (by omega) hCB (by omega) (by omega) (by omega) (by omega) (fun b hb => absurd hb (Nat.not_lt_zero b)) (Nat.lt_succ_self _) _ _ (hP.sub [0, 1, 2, 3, 4, 5, 6, 7, 8, 9, 10, 11] rfl) (hD.sub [0, 1, 2, 3, 4, 5, 6, 7, 8, 9, 10, 11] (by decide) rfl) hS ls (lv_sub hl [1, 2, 3, 4, 0] rfl)
  · skip
    have h_1 : firP bc B3 B5 wh fn (cj * 10 + ci) := h_1
    refine lv_iconst (v := 1) hx hb dX3_hasFireNearerThan_72 (by decide) ?_
    have hP9 := hP.sub (ws' := (bL bo B1 B2 B3 B4 B5 B6 B7 ++ ([(fa, Sum.inr (3, [Value.ref cu, Value.ref rv, Value.ref bt, Value.int (nI bc), Value.int ho, Value.int fe])), (bt, Sum.inl (bc9, 10, Sum.inr (Sum.inr (Sum.inr (Sum.inr (fun j => some (bo j)))))))] : va_W))) [0, 1, 2, 3, 4, 5, 6, 7, 8, 9, 10, 11] rfl
    have hD9 := hD.sub (ws' := (bL bo B1 B2 B3 B4 B5 B6 B7 ++ ([(fa, Sum.inr (3, [Value.ref cu, Value.ref rv, Value.ref bt, Value.int (nI bc), Value.int ho, Value.int fe])), (bt, Sum.inl (bc9, 10, Sum.inr (Sum.inr (Sum.inr (Sum.inr (fun j => some (bo j)))))))] : va_W))) [0, 1, 2, 3, 4, 5, 6, 7, 8, 9, 10, 11] (by decide) rfl
    have hK9 := hK.sub (tys' := []) [] rfl
    refine W.widen (k := 0) (n := 0) (by decide) (by decide) ?_
    exact W.zret (v := 1) hx hb hr rfl (fun t ht hW => ⟨⟨1, (), rfl, Or.inl ⟨rfl, h_1⟩, by rw [ht]; exact hP9, va_K.moved hW.alike hK9, hD9⟩, hS.F ht⟩) hS.2.2 dX3_hasFireNearerThan_73
  · skip
    have h_2 : ∀ b, b < bc → B5 b = 1 → ¬ B3 b = 0 → ¬ nrP (wh b) (cj * 10 + ci) fn := h_2
    refine lv_iconst (v := 0) hx hb dX3_hasFireNearerThan_80 (by decide) ?_
    have hP9 := hP.sub (ws' := (bL bo B1 B2 B3 B4 B5 B6 B7 ++ ([(fa, Sum.inr (3, [Value.ref cu, Value.ref rv, Value.ref bt, Value.int (nI bc), Value.int ho, Value.int fe])), (bt, Sum.inl (bc9, 10, Sum.inr (Sum.inr (Sum.inr (Sum.inr (fun j => some (bo j)))))))] : va_W))) [0, 1, 2, 3, 4, 5, 6, 7, 8, 9, 10, 11] rfl
    have hD9 := hD.sub (ws' := (bL bo B1 B2 B3 B4 B5 B6 B7 ++ ([(fa, Sum.inr (3, [Value.ref cu, Value.ref rv, Value.ref bt, Value.int (nI bc), Value.int ho, Value.int fe])), (bt, Sum.inl (bc9, 10, Sum.inr (Sum.inr (Sum.inr (Sum.inr (fun j => some (bo j)))))))] : va_W))) [0, 1, 2, 3, 4, 5, 6, 7, 8, 9, 10, 11] (by decide) rfl
    have hK9 := hK.sub (tys' := []) [] rfl
    refine W.widen (k := 0) (n := 0) (by decide) (by decide) ?_
    exact W.zret (v := 0) hx hb hr rfl (fun t ht hW => ⟨⟨0, (), rfl, Or.inr ⟨rfl, fun q => by obtain ⟨b9, q1, q2, q3, q4⟩ := q; exact h_2 b9 q1 q2 q3 q4⟩, by rw [ht]; exact hP9, va_K.moved hW.alike hK9, hD9⟩, hS.F ht⟩) hS.2.2 dX3_hasFireNearerThan_81
