theorem dX8_nearer_0 : decode cX8_nearer 0 = .ok (.iload_n 0, 1) := by decide +kernel
theorem dX8_nearer_1 : decode cX8_nearer 1 = .ok (.iconst (-1), 1) := by decide +kernel
theorem dX8_nearer_2 : decode cX8_nearer 2 = .ok (.if_icmp .eq 8, 3) := by decide +kernel
theorem dX8_nearer_10 : decode cX8_nearer 10 = .ok (.iload_n 0, 1) := by decide +kernel
theorem dX8_nearer_11 : decode cX8_nearer 11 = .ok (.iconst (-1), 1) := by decide +kernel
theorem dX8_nearer_12 : decode cX8_nearer 12 = .ok (.if_icmp .ne 7, 3) := by decide +kernel
theorem dX8_nearer_19 : decode cX8_nearer 19 = .ok (.iload_n 0, 1) := by decide +kernel
theorem dX8_nearer_20 : decode cX8_nearer 20 = .ok (.ireturn, 1) := by decide +kernel
theorem dX8_nearer_15 : decode cX8_nearer 15 = .ok (.iload_n 1, 1) := by decide +kernel
theorem dX8_nearer_16 : decode cX8_nearer 16 = .ok (.goto 4, 3) := by decide +kernel
theorem dX8_nearer_5 : decode cX8_nearer 5 = .ok (.iload_n 1, 1) := by decide +kernel
theorem dX8_nearer_6 : decode cX8_nearer 6 = .ok (.iconst (-1), 1) := by decide +kernel
theorem dX8_nearer_7 : decode cX8_nearer 7 = .ok (.if_icmp .ne 14, 3) := by decide +kernel
theorem dX8_nearer_21 : decode cX8_nearer 21 = .ok (.iload_n 0, 1) := by decide +kernel
theorem dX8_nearer_22 : decode cX8_nearer 22 = .ok (.iload_n 1, 1) := by decide +kernel
theorem kw_4_28 : Cond.methodLink RX8 130 Lib.Math.min.name ∈ gw := gw_t4 (List.mem_of_getElem? (i := 28) (by decide +kernel)) (by decide +kernel)
theorem dX8_nearer_23 : decode cX8_nearer 23 = .ok (.invokestatic 130, 3) := by decide +kernel
theorem dX8_nearer_26 : decode cX8_nearer 26 = .ok (.ireturn, 1) := by decide +kernel
set_option maxHeartbeats 4000000 in
set_option maxRecDepth 100000 in
theorem c_nearer (l : Launch) (D : va_G) (x : Int32) (y : Int32) : cI l yX8_nearer (.code yX8_nearer cX8_nearer 2 (some .int)) ({ frames := 1, cells := 0, slots := 0, locals := 60 }) D [] [] xT [Value.int x, Value.int y] (S := Unit) (fun r _ => r = r) (fun _ => []) (fun _ => []) := by
  intro sz
  refine Met.ofW (cc := cX8_nearer) (maxL := 2) (ret := (some .int)) (by decide) rfl ?_
  intro p e s m args below meth c s₁ B hml hv
  obtain ⟨rfl, hsz, hP, hK, hD0, hX⟩ := hv
  have hx := B.exec
  have hb := B.bytes
  have hr := B.returns
  have hts0 := atoms_spec (ws := .code yX8_nearer cX8_nearer 2 (some .int) :: gw) B.pre
  have hts := fun (w : Cond) (h : w ∈ gw) => hts0 w (List.mem_cons_of_mem _ h)
  have hown : s.vm.findClass RX8 = some m.cls := findClass_of_methodNamed B.named
  have hlocks := B.notSynchronized
  have F : mFix p s m _ c cX8_nearer 2 RX8 := ⟨hx, hb, hml, hown, hts⟩
  subst hsz
  have hD := hD0.self (sz := s.heap.size)
  generalize hAe : va_A [] s.heap.size = A at hD hX ⊢
  have hA : ∀ q : Nat, s.heap.size ≤ q → A q := fun q h => by rw [← hAe]; exact Or.inr h
  have hS : va_S A s.heap s.heap [] := va_S.rf
  have hl := lv_entry ([Value.int x, Value.int y]) (n := 2) (Nat.le_of_ble_eq_true rfl)
  rw [lg_entry_eq]
  generalize (lg_sl ([Value.int x, Value.int y]) ++ List.replicate (2 - (lg_sl ([Value.int x, Value.int y])).length) Slot.unset).toArray = ls at hl ⊢
  have hl : lv_has ls 2 [(0, Value.int x), (1, Value.int y)] := hl
  have hP : va_P D vwCl [] s.heap := hP
  refine lv_iload_n hx hb dX8_nearer_0 rfl (lv_at hl 0 rfl) ?_
  refine lv_iconst (v := -1) hx hb dX8_nearer_1 (by decide) ?_
  refine lv_icmp_eq (tgt := 10) hx hb dX8_nearer_2 (by decide) (fun c_1 => ?_) (fun c_1 => ?_)
  · skip
    refine lv_iload_n hx hb dX8_nearer_10 rfl (lv_at hl 0 rfl) ?_
    refine lv_iconst (v := -1) hx hb dX8_nearer_11 (by decide) ?_
    refine lv_icmp_ne (tgt := 19) hx hb dX8_nearer_12 (by decide) (fun c_2 => ?_) (fun c_2 => ?_)
    · skip
      refine lv_iload_n hx hb dX8_nearer_19 rfl (lv_at hl 0 rfl) ?_
      have hP9 := hP.sub (ws' := []) [] rfl
      have hD9 := hD.sub (ws' := []) [] (by decide) rfl
      have hK9 := hK.sub (tys' := []) [] rfl
      refine W.widen (k := 0) (n := 0) (by decide) (by decide) ?_
      exact W.iret (v := x) hx hb hr (fun t ht hW => ⟨⟨x, (), rfl, rfl, by rw [ht]; exact hP9, va_K.moved hW.alike hK9, hD9⟩, hS.F ht⟩) hS.2.2 dX8_nearer_20
    · skip
      refine lv_iload_n hx hb dX8_nearer_15 rfl (lv_at hl 1 rfl) ?_
      refine lv_goto (tgt := 20) hx hb dX8_nearer_16 (by decide) ?_
      have hP9 := hP.sub (ws' := []) [] rfl
      have hD9 := hD.sub (ws' := []) [] (by decide) rfl
      have hK9 := hK.sub (tys' := []) [] rfl
      refine W.widen (k := 0) (n := 0) (by decide) (by decide) ?_
      exact W.iret (v := y) hx hb hr (fun t ht hW => ⟨⟨y, (), rfl, rfl, by rw [ht]; exact hP9, va_K.moved hW.alike hK9, hD9⟩, hS.F ht⟩) hS.2.2 dX8_nearer_20
  · skip
    refine lv_iload_n hx hb dX8_nearer_5 rfl (lv_at hl 1 rfl) ?_
    refine lv_iconst (v := -1) hx hb dX8_nearer_6 (by decide) ?_
    refine lv_icmp_ne (tgt := 21) hx hb dX8_nearer_7 (by decide) (fun c_3 => ?_) (fun c_3 => ?_)
    · skip
      refine lv_iload_n hx hb dX8_nearer_21 rfl (lv_at hl 0 rfl) ?_
      refine lv_iload_n hx hb dX8_nearer_22 rfl (lv_at hl 1 rfl) ?_
      refine va_mmin hx hb (by rw [hml]; exact hl.1.symm) hown (hts _ kw_4_28) (hts _ kw_2_129) (hts _ kw_1_12) (hts _ kw_2_130) (Nat.le_of_ble_eq_true rfl) (Nat.le_of_ble_eq_true rfl) (Nat.le_of_ble_eq_true rfl) (Nat.le_of_ble_eq_true rfl) dX8_nearer_23 ?_
      refine lv_topi (fun z_4 ez_4 => ?_)
      have hP9 := hP.sub (ws' := []) [] rfl
      have hD9 := hD.sub (ws' := []) [] (by decide) rfl
      have hK9 := hK.sub (tys' := []) [] rfl
      refine W.widen (k := 0) (n := 0) (by decide) (by decide) ?_
      exact W.iret (v := z_4) hx hb hr (fun t ht hW => ⟨⟨z_4, (), rfl, rfl, by rw [ht]; exact hP9, va_K.moved hW.alike hK9, hD9⟩, hS.F ht⟩) hS.2.2 dX8_nearer_26
    · skip
      refine lv_iload_n hx hb dX8_nearer_10 rfl (lv_at hl 0 rfl) ?_
      refine lv_iconst (v := -1) hx hb dX8_nearer_11 (by decide) ?_
      refine lv_icmp_ne (tgt := 19) hx hb dX8_nearer_12 (by decide) (fun c_5 => ?_) (fun c_5 => ?_)
      · skip
        refine lv_iload_n hx hb dX8_nearer_19 rfl (lv_at hl 0 rfl) ?_
        have hP9 := hP.sub (ws' := []) [] rfl
        have hD9 := hD.sub (ws' := []) [] (by decide) rfl
        have hK9 := hK.sub (tys' := []) [] rfl
        refine W.widen (k := 0) (n := 0) (by decide) (by decide) ?_
        exact W.iret (v := x) hx hb hr (fun t ht hW => ⟨⟨x, (), rfl, rfl, by rw [ht]; exact hP9, va_K.moved hW.alike hK9, hD9⟩, hS.F ht⟩) hS.2.2 dX8_nearer_20
      · skip
        refine lv_iload_n hx hb dX8_nearer_15 rfl (lv_at hl 1 rfl) ?_
        refine lv_goto (tgt := 20) hx hb dX8_nearer_16 (by decide) ?_
        have hP9 := hP.sub (ws' := []) [] rfl
        have hD9 := hD.sub (ws' := []) [] (by decide) rfl
        have hK9 := hK.sub (tys' := []) [] rfl
        refine W.widen (k := 0) (n := 0) (by decide) (by decide) ?_
        exact W.iret (v := y) hx hb hr (fun t ht hW => ⟨⟨y, (), rfl, rfl, by rw [ht]; exact hP9, va_K.moved hW.alike hK9, hD9⟩, hS.F ht⟩) hS.2.2 dX8_nearer_20
theorem dX8_stepsAt_0 : decode cX8_stepsAt 0 = .ok (.aload_n 1, 1) := by decide +kernel
theorem dX8_stepsAt_1 : decode cX8_stepsAt 1 = .ok (.iload_n 2, 1) := by decide +kernel
theorem dX8_stepsAt_2 : decode cX8_stepsAt 2 = .ok (.iload_n 3, 1) := by decide +kernel
theorem kw_4_24 : Cond.methodLink RX8 127 yX6_has ∈ gw := gw_t4 (List.mem_of_getElem? (i := 24) (by decide +kernel)) (by decide +kernel)
theorem gk_X8_127 : GoodIn gw (wsV RX8 127 RX6 yX6_has (.code yX6_has cX6_has 3 (some .boolean) :: gw)) ∧ (yX6_has.cls = RX6 ∧ yX6_has.cls ≠ "java/lang/invoke/MethodHandle" ∧ yX6_has.cls ≠ "java/lang/invoke/VarHandle" ∧ (parseMethodDescriptor yX6_has.desc).map (fun d => d.parameters.length) = some 2) := ⟨gi_V kw_4_24 kw_3_7 kw_3_8 kw_1_7 kw_3_9, by decide +kernel⟩
theorem dX8_stepsAt_3 : decode cX8_stepsAt 3 = .ok (.invokevirtual 127, 3) := by decide +kernel
theorem dX8_stepsAt_6 : decode cX8_stepsAt 6 = .ok (.ifCond .eq 17, 3) := by decide +kernel
theorem dX8_stepsAt_23 : decode cX8_stepsAt 23 = .ok (.iconst (-1), 1) := by decide +kernel
theorem dX8_stepsAt_24 : decode cX8_stepsAt 24 = .ok (.ireturn, 1) := by decide +kernel
theorem dX8_stepsAt_9 : decode cX8_stepsAt 9 = .ok (.aload_n 0, 1) := by decide +kernel
theorem dX8_stepsAt_10 : decode cX8_stepsAt 10 = .ok (.getfield 9, 3) := by decide +kernel
theorem dX8_stepsAt_13 : decode cX8_stepsAt 13 = .ok (.aload_n 1, 1) := by decide +kernel
theorem dX8_stepsAt_14 : decode cX8_stepsAt 14 = .ok (.iload_n 2, 1) := by decide +kernel
theorem dX8_stepsAt_15 : decode cX8_stepsAt 15 = .ok (.iload_n 3, 1) := by decide +kernel
theorem kw_4_15 : Cond.methodLink RX8 121 yX6_spotOf ∈ gw := gw_t4 (List.mem_of_getElem? (i := 15) (by decide +kernel)) (by decide +kernel)
theorem gk_X8_121 : GoodIn gw (wsV RX8 121 RX6 yX6_spotOf (.code yX6_spotOf cX6_spotOf 3 (some .int) :: gw)) ∧ (yX6_spotOf.cls = RX6 ∧ yX6_spotOf.cls ≠ "java/lang/invoke/MethodHandle" ∧ yX6_spotOf.cls ≠ "java/lang/invoke/VarHandle" ∧ (parseMethodDescriptor yX6_spotOf.desc).map (fun d => d.parameters.length) = some 2) := ⟨gi_V kw_4_15 kw_3_16 kw_3_17 kw_1_7 kw_3_18, by decide +kernel⟩
theorem dX8_stepsAt_16 : decode cX8_stepsAt 16 = .ok (.invokevirtual 121, 3) := by decide +kernel
theorem dX8_stepsAt_19 : decode cX8_stepsAt 19 = .ok (.iaload, 1) := by decide +kernel
theorem dX8_stepsAt_20 : decode cX8_stepsAt 20 = .ok (.goto 4, 3) := by decide +kernel
set_option maxHeartbeats 4000000 in
set_option maxRecDepth 100000 in
theorem c_stepsAt (l : Launch) (D : va_G) (h0 : Nat) (rv : Nat) (wy1 : Nat) (wy2 : Nat) (wy3 : Nat) (wy4 : Nat) (wc1 : ClassId) (s1 : Nat → Int32) (qd : Int32) (cr : Int32) (q1 : Nat) (q2 : Nat) (q3 : Nat) (q4 : Nat) (q5 : Nat) (q6 : Nat) (w : Nat) (h : Nat) (x : Int32) (y : Int32) (h3 : w ≤ 10) (h4 : h ≤ 10) : cI l yX8_stepsAt (.code yX8_stepsAt cX8_stepsAt 4 (some .int)) ({ frames := 1, cells := 0, slots := 0, locals := 22 }) D [(wc1, .int)] [(h0, Sum.inr (7, [Value.ref wy1, Value.ref wy2, Value.int qd, Value.ref wy3, Value.ref wy4, Value.int cr])), (wy1, Sum.inl (wc1, 100, Sum.inl s1)), (rv, Sum.inr (5, [Value.int (nI w), Value.int (nI h), Value.ref q1, Value.ref q2, Value.ref q3, Value.ref q4, Value.ref q5, Value.ref q6]))] xT [Value.ref h0, Value.ref rv, Value.int x, Value.int y] (S := Unit) (fun r _ => r = r) (fun _ => []) (fun _ => [(h0, Sum.inr (7, [Value.ref wy1, Value.ref wy2, Value.int qd, Value.ref wy3, Value.ref wy4, Value.int cr])), (wy1, Sum.inl (wc1, 100, Sum.inl s1)), (rv, Sum.inr (5, [Value.int (nI w), Value.int (nI h), Value.ref q1, Value.ref q2, Value.ref q3, Value.ref q4, Value.ref q5, Value.ref q6]))]) := by
  intro sz
  refine Met.ofW (cc := cX8_stepsAt) (maxL := 4) (ret := (some .int)) (by decide) rfl ?_
  intro p e s m args below meth c s₁ B hml hv
  obtain ⟨rfl, hsz, hP, hK, hD0, hX⟩ := hv
  have hx := B.exec
  have hb := B.bytes
  have hr := B.returns
  have hts0 := atoms_spec (ws := .code yX8_stepsAt cX8_stepsAt 4 (some .int) :: gw) B.pre
  have hts := fun (w : Cond) (h : w ∈ gw) => hts0 w (List.mem_cons_of_mem _ h)
  have hown : s.vm.findClass RX8 = some m.cls := findClass_of_methodNamed B.named
  have hlocks := B.notSynchronized
  have F : mFix p s m _ c cX8_stepsAt 4 RX8 := ⟨hx, hb, hml, hown, hts⟩
  subst hsz
  have hD := hD0.self (sz := s.heap.size)
  generalize hAe : va_A [(h0, Sum.inr (7, [Value.ref wy1, Value.ref wy2, Value.int qd, Value.ref wy3, Value.ref wy4, Value.int cr])), (wy1, Sum.inl (wc1, 100, Sum.inl s1)), (rv, Sum.inr (5, [Value.int (nI w), Value.int (nI h), Value.ref q1, Value.ref q2, Value.ref q3, Value.ref q4, Value.ref q5, Value.ref q6]))] s.heap.size = A at hD hX ⊢
  have hA : ∀ q : Nat, s.heap.size ≤ q → A q := fun q h => by rw [← hAe]; exact Or.inr h
  have hS : va_S A s.heap s.heap [] := va_S.rf
  have hl := lv_entry ([Value.ref h0, Value.ref rv, Value.int x, Value.int y]) (n := 4) (Nat.le_of_ble_eq_true rfl)
  rw [lg_entry_eq]
  generalize (lg_sl ([Value.ref h0, Value.ref rv, Value.int x, Value.int y]) ++ List.replicate (4 - (lg_sl ([Value.ref h0, Value.ref rv, Value.int x, Value.int y])).length) Slot.unset).toArray = ls at hl ⊢
  have hl : lv_has ls 4 [(0, Value.ref h0), (1, Value.ref rv), (2, Value.int x), (3, Value.int y)] := hl
  have hP : va_P D vwCl [(h0, Sum.inr (7, [Value.ref wy1, Value.ref wy2, Value.int qd, Value.ref wy3, Value.ref wy4, Value.int cr])), (wy1, Sum.inl (wc1, 100, Sum.inl s1)), (rv, Sum.inr (5, [Value.int (nI w), Value.int (nI h), Value.ref q1, Value.ref q2, Value.ref q3, Value.ref q4, Value.ref q5, Value.ref q6]))] s.heap := hP
  refine lv_aload_n hx hb dX8_stepsAt_0 rfl (lv_at hl 1 rfl) ?_
  refine lv_iload_n hx hb dX8_stepsAt_1 rfl (lv_at hl 2 rfl) ?_
  refine lv_iload_n hx hb dX8_stepsAt_2 rfl (lv_at hl 3 rfl) ?_
  refine mc_Vi (rest := []) (wr := [(h0, Sum.inr (7, [Value.ref wy1, Value.ref wy2, Value.int qd, Value.ref wy3, Value.ref wy4, Value.int cr])), (wy1, Sum.inl (wc1, 100, Sum.inl s1))]) F hK hP hD hS hA (c_has_any l D rv q1 q2 q3 q4 q5 q6 w h x y (by omega) (by omega)) ⟨gk_X8_127.1, gk_X8_127.2, Nat.le_of_ble_eq_true rfl, Nat.le_of_ble_eq_true rfl⟩ [2] [0, 1] [] ⟨rfl, rfl, rfl, rfl, by decide⟩ rfl xT_move (fun _ _ _ => trivial) 2 rfl rfl rfl hl.1 rfl (Nat.le_of_ble_eq_true rfl) dX8_stepsAt_3 ⟨Nat.le_of_ble_eq_true rfl, Nat.le_of_ble_eq_true rfl⟩ (fun r_1 _ H locs hw hK1 hP hD hS => ?_)
  have hP : va_P D vwCl [(h0, Sum.inr (7, [Value.ref wy1, Value.ref wy2, Value.int qd, Value.ref wy3, Value.ref wy4, Value.int cr])), (wy1, Sum.inl (wc1, 100, Sum.inl s1)), (rv, Sum.inr (5, [Value.int (nI w), Value.int (nI h), Value.ref q1, Value.ref q2, Value.ref q3, Value.ref q4, Value.ref q5, Value.ref q6]))] H := hP
  have hD : va_D A [(h0, Sum.inr (7, [Value.ref wy1, Value.ref wy2, Value.int qd, Value.ref wy3, Value.ref wy4, Value.int cr])), (wy1, Sum.inl (wc1, 100, Sum.inl s1)), (rv, Sum.inr (5, [Value.int (nI w), Value.int (nI h), Value.ref q1, Value.ref q2, Value.ref q3, Value.ref q4, Value.ref q5, Value.ref q6]))] := hD
  have hw_2 : r_1 = (if (x < 0 ∨ ¬ x < nI w ∨ y < 0 ∨ ¬ y < nI h) then 0 else 1) := hw
  by_cases ho_3 : (x < 0 ∨ ¬ x < nI w ∨ y < 0 ∨ ¬ y < nI h)
  · skip
    obtain rfl : r_1 = 0 := by rw [hw_2, if_pos ho_3]
    refine lv_if_eq (tgt := 23) hx hb dX8_stepsAt_6 (by decide) (fun c_4 => ?_) (fun c_4 => absurd c_4 (by decide))
    refine lv_iconst (v := -1) hx hb dX8_stepsAt_23 (by decide) ?_
    have hP9 := hP.sub (ws' := [(h0, Sum.inr (7, [Value.ref wy1, Value.ref wy2, Value.int qd, Value.ref wy3, Value.ref wy4, Value.int cr])), (wy1, Sum.inl (wc1, 100, Sum.inl s1)), (rv, Sum.inr (5, [Value.int (nI w), Value.int (nI h), Value.ref q1, Value.ref q2, Value.ref q3, Value.ref q4, Value.ref q5, Value.ref q6]))]) [0, 1, 2] rfl
    have hD9 := hD.sub (ws' := [(h0, Sum.inr (7, [Value.ref wy1, Value.ref wy2, Value.int qd, Value.ref wy3, Value.ref wy4, Value.int cr])), (wy1, Sum.inl (wc1, 100, Sum.inl s1)), (rv, Sum.inr (5, [Value.int (nI w), Value.int (nI h), Value.ref q1, Value.ref q2, Value.ref q3, Value.ref q4, Value.ref q5, Value.ref q6]))]) [0, 1, 2] (by decide) rfl
    have hK9 := hK.sub (tys' := []) [] rfl
    refine W.widen (k := 0) (n := 0) (by decide) (by decide) ?_
    exact W.iret (v := (-1)) hx hb hr (fun t ht hW => ⟨⟨((-1)), (), rfl, rfl, by rw [ht]; exact hP9, va_K.moved hW.alike hK9, hD9⟩, hS.F ht⟩) hS.2.2 dX8_stepsAt_24
  · skip
    obtain rfl : r_1 = 1 := by rw [hw_2, if_neg ho_3]
    obtain ⟨i_5, hi_5, ei_5⟩ : ∃ j : Nat, j < w ∧ x = nI j := n_lt (fun q => ho_3 (Or.inl q)) (fun q => ho_3 (Or.inr (Or.inl (Int32.not_lt.mpr q)))) (by omega)
    obtain ⟨j_6, hj_6, ej_6⟩ : ∃ j : Nat, j < h ∧ y = nI j := n_lt (fun q => ho_3 (Or.inr (Or.inr (Or.inl q)))) (fun q => ho_3 (Or.inr (Or.inr (Or.inr (Int32.not_lt.mpr q))))) (by omega)
    subst ei_5
    subst ej_6
    have hl : lv_has ls 4 [(0, Value.ref h0), (1, Value.ref rv), (2, Value.int (nI i_5)), (3, Value.int (nI j_6))] := hl
    refine lv_if_eq (tgt := 23) hx hb dX8_stepsAt_6 (by decide) (fun c_7 => absurd c_7 (by decide)) (fun c_7 => ?_)
    refine lv_aload_n hx hb dX8_stepsAt_9 rfl (lv_at hl 0 rfl) ?_
    refine va_get (D := D) (ci := 7) (v := Value.ref wy1) (C := RX8) (T := TX8) (N := 6) hx hb hts inG_X8 hown hK hP 0 rfl rfl 0 (by decide) (hts _ kw_2_48) (fun _ h9 => h9) rfl dX8_stepsAt_10 ?_
    refine lv_aload_n hx hb dX8_stepsAt_13 rfl (lv_at hl 1 rfl) ?_
    refine lv_iload_n hx hb dX8_stepsAt_14 rfl (lv_at hl 2 rfl) ?_
    refine lv_iload_n hx hb dX8_stepsAt_15 rfl (lv_at hl 3 rfl) ?_
    refine mc_Vi (rest := [Value.ref wy1]) (wr := [(h0, Sum.inr (7, [Value.ref wy1, Value.ref wy2, Value.int qd, Value.ref wy3, Value.ref wy4, Value.int cr])), (wy1, Sum.inl (wc1, 100, Sum.inl s1))]) F hK hP hD hS hA (c_spotOf l D rv q1 q2 q3 q4 q5 q6 w h i_5 j_6 ) ⟨gk_X8_121.1, gk_X8_121.2, Nat.le_of_ble_eq_true rfl, Nat.le_of_ble_eq_true rfl⟩ [2] [0, 1] [] ⟨rfl, rfl, rfl, rfl, by decide⟩ rfl xT_move (fun _ _ _ => trivial) 2 rfl rfl rfl hl.1 rfl (Nat.le_of_ble_eq_true rfl) dX8_stepsAt_16 ⟨Nat.le_of_ble_eq_true rfl, Nat.le_of_ble_eq_true rfl⟩ (fun r_8 _ H locs hw hK1 hP hD hS => ?_)
    have hP : va_P D vwCl [(h0, Sum.inr (7, [Value.ref wy1, Value.ref wy2, Value.int qd, Value.ref wy3, Value.ref wy4, Value.int cr])), (wy1, Sum.inl (wc1, 100, Sum.inl s1)), (rv, Sum.inr (5, [Value.int (nI w), Value.int (nI h), Value.ref q1, Value.ref q2, Value.ref q3, Value.ref q4, Value.ref q5, Value.ref q6]))] H := hP
    have hD : va_D A [(h0, Sum.inr (7, [Value.ref wy1, Value.ref wy2, Value.int qd, Value.ref wy3, Value.ref wy4, Value.int cr])), (wy1, Sum.inl (wc1, 100, Sum.inl s1)), (rv, Sum.inr (5, [Value.int (nI w), Value.int (nI h), Value.ref q1, Value.ref q2, Value.ref q3, Value.ref q4, Value.ref q5, Value.ref q6]))] := hD
    have hw_9 : r_8 = nI (j_6 * 10 + i_5) := hw
    obtain rfl : r_8 = nI (j_6 * 10 + i_5) := hw_9
    refine m_iald hx hb hK hP 1 0 rfl rfl (j_6 * 10 + i_5) rfl (by omega) (by decide) dX8_stepsAt_19 ?_
    refine lv_topi (fun v_10 ev_10 => ?_)
    refine lv_goto (tgt := 24) hx hb dX8_stepsAt_20 (by decide) ?_
    have hP9 := hP.sub (ws' := [(h0, Sum.inr (7, [Value.ref wy1, Value.ref wy2, Value.int qd, Value.ref wy3, Value.ref wy4, Value.int cr])), (wy1, Sum.inl (wc1, 100, Sum.inl s1)), (rv, Sum.inr (5, [Value.int (nI w), Value.int (nI h), Value.ref q1, Value.ref q2, Value.ref q3, Value.ref q4, Value.ref q5, Value.ref q6]))]) [0, 1, 2] rfl
    have hD9 := hD.sub (ws' := [(h0, Sum.inr (7, [Value.ref wy1, Value.ref wy2, Value.int qd, Value.ref wy3, Value.ref wy4, Value.int cr])), (wy1, Sum.inl (wc1, 100, Sum.inl s1)), (rv, Sum.inr (5, [Value.int (nI w), Value.int (nI h), Value.ref q1, Value.ref q2, Value.ref q3, Value.ref q4, Value.ref q5, Value.ref q6]))]) [0, 1, 2] (by decide) rfl
    have hK9 := hK.sub (tys' := []) [] rfl
    refine W.widen (k := 0) (n := 0) (by decide) (by decide) ?_
    exact W.iret (v := v_10) hx hb hr (fun t ht hW => ⟨⟨v_10, (), rfl, rfl, by rw [ht]; exact hP9, va_K.moved hW.alike hK9, hD9⟩, hS.F ht⟩) hS.2.2 dX8_stepsAt_24
theorem dX8_stepsFrom_0 : decode cX8_stepsFrom 0 = .ok (.aload_n 0, 1) := by decide +kernel
theorem dX8_stepsFrom_1 : decode cX8_stepsFrom 1 = .ok (.aload_n 1, 1) := by decide +kernel
theorem dX8_stepsFrom_2 : decode cX8_stepsFrom 2 = .ok (.iload_n 2, 1) := by decide +kernel
theorem dX8_stepsFrom_3 : decode cX8_stepsFrom 3 = .ok (.iload_n 3, 1) := by decide +kernel
theorem kw_4_20 : Cond.methodLink RX8 124 yX8_stepsAt ∈ gw := gw_t4 (List.mem_of_getElem? (i := 20) (by decide +kernel)) (by decide +kernel)
theorem kw_4_22 : Cond.instanceMethod yX8_stepsAt ∈ gw := gw_t4 (List.mem_of_getElem? (i := 22) (by decide +kernel)) (by decide +kernel)
theorem ks_2_10 : Cond.selects RX8 yX8_stepsAt yX8_stepsAt ∈ gw := gw_s (y := yX8_stepsAt) (n := 6) (List.mem_append_right _ (List.mem_append_left _ (List.mem_of_getElem? (i := 10) (by decide +kernel))))
theorem kw_4_23 : Cond.code yX8_stepsAt cX8_stepsAt 4 (some .int) ∈ gw := gw_t4 (List.mem_of_getElem? (i := 23) (by decide +kernel)) (by decide +kernel)
theorem gk_X8_124 : GoodIn gw (wsV RX8 124 RX8 yX8_stepsAt (.code yX8_stepsAt cX8_stepsAt 4 (some .int) :: gw)) ∧ (yX8_stepsAt.cls = RX8 ∧ yX8_stepsAt.cls ≠ "java/lang/invoke/MethodHandle" ∧ yX8_stepsAt.cls ≠ "java/lang/invoke/VarHandle" ∧ (parseMethodDescriptor yX8_stepsAt.desc).map (fun d => d.parameters.length) = some 3) := ⟨gi_V kw_4_20 kw_4_22 ks_2_10 kw_1_10 kw_4_23, by decide +kernel⟩
theorem dX8_stepsFrom_4 : decode cX8_stepsFrom 4 = .ok (.invokevirtual 124, 3) := by decide +kernel
theorem dX8_stepsFrom_7 : decode cX8_stepsFrom 7 = .ok (.iconst (-1), 1) := by decide +kernel
theorem dX8_stepsFrom_8 : decode cX8_stepsFrom 8 = .ok (.if_icmp .eq 11, 3) := by decide +kernel
theorem dX8_stepsFrom_19 : decode cX8_stepsFrom 19 = .ok (.aload_n 1, 1) := by decide +kernel
theorem dX8_stepsFrom_20 : decode cX8_stepsFrom 20 = .ok (.iload_n 2, 1) := by decide +kernel
theorem dX8_stepsFrom_21 : decode cX8_stepsFrom 21 = .ok (.iload_n 3, 1) := by decide +kernel
theorem dX8_stepsFrom_22 : decode cX8_stepsFrom 22 = .ok (.invokevirtual 127, 3) := by decide +kernel
theorem dX8_stepsFrom_25 : decode cX8_stepsFrom 25 = .ok (.ifCond .ne 5, 3) := by decide +kernel
theorem dX8_stepsFrom_30 : decode cX8_stepsFrom 30 = .ok (.aload_n 0, 1) := by decide +kernel
theorem dX8_stepsFrom_31 : decode cX8_stepsFrom 31 = .ok (.aload_n 1, 1) := by decide +kernel
theorem dX8_stepsFrom_32 : decode cX8_stepsFrom 32 = .ok (.iload_n 2, 1) := by decide +kernel
theorem dX8_stepsFrom_33 : decode cX8_stepsFrom 33 = .ok (.iconst 1, 1) := by decide +kernel
theorem dX8_stepsFrom_34 : decode cX8_stepsFrom 34 = .ok (.isub, 1) := by decide +kernel
theorem dX8_stepsFrom_35 : decode cX8_stepsFrom 35 = .ok (.iload_n 3, 1) := by decide +kernel
theorem dX8_stepsFrom_36 : decode cX8_stepsFrom 36 = .ok (.invokevirtual 124, 3) := by decide +kernel
theorem dX8_stepsFrom_39 : decode cX8_stepsFrom 39 = .ok (.aload_n 0, 1) := by decide +kernel
theorem dX8_stepsFrom_40 : decode cX8_stepsFrom 40 = .ok (.aload_n 1, 1) := by decide +kernel
theorem dX8_stepsFrom_41 : decode cX8_stepsFrom 41 = .ok (.iload_n 2, 1) := by decide +kernel
theorem dX8_stepsFrom_42 : decode cX8_stepsFrom 42 = .ok (.iconst 1, 1) := by decide +kernel
theorem dX8_stepsFrom_43 : decode cX8_stepsFrom 43 = .ok (.iadd, 1) := by decide +kernel
theorem dX8_stepsFrom_44 : decode cX8_stepsFrom 44 = .ok (.iload_n 3, 1) := by decide +kernel
theorem dX8_stepsFrom_45 : decode cX8_stepsFrom 45 = .ok (.invokevirtual 124, 3) := by decide +kernel
theorem kw_4_25 : Cond.methodLink RX8 59 yX8_nearer ∈ gw := gw_t4 (List.mem_of_getElem? (i := 25) (by decide +kernel)) (by decide +kernel)
theorem kw_4_26 : Cond.static yX8_nearer ∈ gw := gw_t4 (List.mem_of_getElem? (i := 26) (by decide +kernel)) (by decide +kernel)
theorem kw_4_27 : Cond.code yX8_nearer cX8_nearer 2 (some .int) ∈ gw := gw_t4 (List.mem_of_getElem? (i := 27) (by decide +kernel)) (by decide +kernel)
theorem gk_X8_59 : GoodIn gw (wsS RX8 59 yX8_nearer (.code yX8_nearer cX8_nearer 2 (some .int) :: gw)) ∧ (yX8_nearer.cls = RX8 ∧ yX8_nearer.cls ≠ "java/lang/invoke/MethodHandle" ∧ yX8_nearer.cls ≠ "java/lang/invoke/VarHandle" ∧ (parseMethodDescriptor yX8_nearer.desc).map (fun d => d.parameters.length) = some 2) := ⟨gi_S kw_4_25 kw_4_26 kw_1_10 kw_4_27, by decide +kernel⟩
theorem dX8_stepsFrom_48 : decode cX8_stepsFrom 48 = .ok (.invokestatic 59, 3) := by decide +kernel
theorem dX8_stepsFrom_51 : decode cX8_stepsFrom 51 = .ok (.istore 4, 2) := by decide +kernel
theorem dX8_stepsFrom_53 : decode cX8_stepsFrom 53 = .ok (.iload 4, 2) := by decide +kernel
theorem dX8_stepsFrom_55 : decode cX8_stepsFrom 55 = .ok (.aload_n 0, 1) := by decide +kernel
theorem dX8_stepsFrom_56 : decode cX8_stepsFrom 56 = .ok (.aload_n 1, 1) := by decide +kernel
theorem dX8_stepsFrom_57 : decode cX8_stepsFrom 57 = .ok (.iload_n 2, 1) := by decide +kernel
theorem dX8_stepsFrom_58 : decode cX8_stepsFrom 58 = .ok (.iload_n 3, 1) := by decide +kernel
theorem dX8_stepsFrom_59 : decode cX8_stepsFrom 59 = .ok (.iconst 1, 1) := by decide +kernel
theorem dX8_stepsFrom_60 : decode cX8_stepsFrom 60 = .ok (.isub, 1) := by decide +kernel
theorem dX8_stepsFrom_61 : decode cX8_stepsFrom 61 = .ok (.invokevirtual 124, 3) := by decide +kernel
theorem dX8_stepsFrom_64 : decode cX8_stepsFrom 64 = .ok (.aload_n 0, 1) := by decide +kernel
theorem dX8_stepsFrom_65 : decode cX8_stepsFrom 65 = .ok (.aload_n 1, 1) := by decide +kernel
theorem dX8_stepsFrom_66 : decode cX8_stepsFrom 66 = .ok (.iload_n 2, 1) := by decide +kernel
theorem dX8_stepsFrom_67 : decode cX8_stepsFrom 67 = .ok (.iload_n 3, 1) := by decide +kernel
theorem dX8_stepsFrom_68 : decode cX8_stepsFrom 68 = .ok (.iconst 1, 1) := by decide +kernel
theorem dX8_stepsFrom_69 : decode cX8_stepsFrom 69 = .ok (.iadd, 1) := by decide +kernel
theorem dX8_stepsFrom_70 : decode cX8_stepsFrom 70 = .ok (.invokevirtual 124, 3) := by decide +kernel
theorem dX8_stepsFrom_73 : decode cX8_stepsFrom 73 = .ok (.invokestatic 59, 3) := by decide +kernel
theorem dX8_stepsFrom_76 : decode cX8_stepsFrom 76 = .ok (.invokestatic 59, 3) := by decide +kernel
theorem dX8_stepsFrom_79 : decode cX8_stepsFrom 79 = .ok (.istore 4, 2) := by decide +kernel
theorem dX8_stepsFrom_81 : decode cX8_stepsFrom 81 = .ok (.iload 4, 2) := by decide +kernel
theorem dX8_stepsFrom_83 : decode cX8_stepsFrom 83 = .ok (.iconst (-1), 1) := by decide +kernel
theorem dX8_stepsFrom_84 : decode cX8_stepsFrom 84 = .ok (.if_icmp .ne 7, 3) := by decide +kernel
theorem dX8_stepsFrom_91 : decode cX8_stepsFrom 91 = .ok (.iload 4, 2) := by decide +kernel
theorem dX8_stepsFrom_93 : decode cX8_stepsFrom 93 = .ok (.iconst 1, 1) := by decide +kernel
theorem dX8_stepsFrom_94 : decode cX8_stepsFrom 94 = .ok (.iadd, 1) := by decide +kernel
theorem dX8_stepsFrom_95 : decode cX8_stepsFrom 95 = .ok (.ireturn, 1) := by decide +kernel
theorem dX8_stepsFrom_87 : decode cX8_stepsFrom 87 = .ok (.iconst (-1), 1) := by decide +kernel
theorem dX8_stepsFrom_88 : decode cX8_stepsFrom 88 = .ok (.goto 7, 3) := by decide +kernel
theorem dX8_stepsFrom_28 : decode cX8_stepsFrom 28 = .ok (.iconst (-1), 1) := by decide +kernel
theorem dX8_stepsFrom_29 : decode cX8_stepsFrom 29 = .ok (.ireturn, 1) := by decide +kernel
theorem dX8_stepsFrom_11 : decode cX8_stepsFrom 11 = .ok (.aload_n 0, 1) := by decide +kernel
theorem dX8_stepsFrom_12 : decode cX8_stepsFrom 12 = .ok (.aload_n 1, 1) := by decide +kernel
theorem dX8_stepsFrom_13 : decode cX8_stepsFrom 13 = .ok (.iload_n 2, 1) := by decide +kernel
theorem dX8_stepsFrom_14 : decode cX8_stepsFrom 14 = .ok (.iload_n 3, 1) := by decide +kernel
theorem dX8_stepsFrom_15 : decode cX8_stepsFrom 15 = .ok (.invokevirtual 124, 3) := by decide +kernel
theorem dX8_stepsFrom_18 : decode cX8_stepsFrom 18 = .ok (.ireturn, 1) := by decide +kernel
set_option maxHeartbeats 4000000 in
set_option maxRecDepth 100000 in
theorem c_stepsFrom (l : Launch) (D : va_G) (h0 : Nat) (rv : Nat) (wy1 : Nat) (wy2 : Nat) (wy3 : Nat) (wy4 : Nat) (wc1 : ClassId) (s1 : Nat → Int32) (qd : Int32) (cr : Int32) (q1 : Nat) (q2 : Nat) (q3 : Nat) (q4 : Nat) (q5 : Nat) (q6 : Nat) (w : Nat) (h : Nat) (x : Int32) (y : Int32) (h3 : w ≤ 10) (h4 : h ≤ 10) : cI l yX8_stepsFrom (.code yX8_stepsFrom cX8_stepsFrom 5 (some .int)) ({ frames := 2, cells := 0, slots := 0, locals := 81 }) D [(wc1, .int)] [(h0, Sum.inr (7, [Value.ref wy1, Value.ref wy2, Value.int qd, Value.ref wy3, Value.ref wy4, Value.int cr])), (wy1, Sum.inl (wc1, 100, Sum.inl s1)), (rv, Sum.inr (5, [Value.int (nI w), Value.int (nI h), Value.ref q1, Value.ref q2, Value.ref q3, Value.ref q4, Value.ref q5, Value.ref q6]))] xT [Value.ref h0, Value.ref rv, Value.int x, Value.int y] (S := Unit) (fun r _ => r = r) (fun _ => []) (fun _ => [(h0, Sum.inr (7, [Value.ref wy1, Value.ref wy2, Value.int qd, Value.ref wy3, Value.ref wy4, Value.int cr])), (wy1, Sum.inl (wc1, 100, Sum.inl s1)), (rv, Sum.inr (5, [Value.int (nI w), Value.int (nI h), Value.ref q1, Value.ref q2, Value.ref q3, Value.ref q4, Value.ref q5, Value.ref q6]))]) := by
  intro sz
  refine Met.ofW (cc := cX8_stepsFrom) (maxL := 5) (ret := (some .int)) (by decide) rfl ?_
  intro p e s m args below meth c s₁ B hml hv
  obtain ⟨rfl, hsz, hP, hK, hD0, hX⟩ := hv
  have hx := B.exec
  have hb := B.bytes
  have hr := B.returns
  have hts0 := atoms_spec (ws := .code yX8_stepsFrom cX8_stepsFrom 5 (some .int) :: gw) B.pre
  have hts := fun (w : Cond) (h : w ∈ gw) => hts0 w (List.mem_cons_of_mem _ h)
  have hown : s.vm.findClass RX8 = some m.cls := findClass_of_methodNamed B.named
  have hlocks := B.notSynchronized
  have F : mFix p s m _ c cX8_stepsFrom 5 RX8 := ⟨hx, hb, hml, hown, hts⟩
  subst hsz
  have hD := hD0.self (sz := s.heap.size)
  generalize hAe : va_A [(h0, Sum.inr (7, [Value.ref wy1, Value.ref wy2, Value.int qd, Value.ref wy3, Value.ref wy4, Value.int cr])), (wy1, Sum.inl (wc1, 100, Sum.inl s1)), (rv, Sum.inr (5, [Value.int (nI w), Value.int (nI h), Value.ref q1, Value.ref q2, Value.ref q3, Value.ref q4, Value.ref q5, Value.ref q6]))] s.heap.size = A at hD hX ⊢
  have hA : ∀ q : Nat, s.heap.size ≤ q → A q := fun q h => by rw [← hAe]; exact Or.inr h
  have hS : va_S A s.heap s.heap [] := va_S.rf
  have hl := lv_entry ([Value.ref h0, Value.ref rv, Value.int x, Value.int y]) (n := 5) (Nat.le_of_ble_eq_true rfl)
  rw [lg_entry_eq]
  generalize (lg_sl ([Value.ref h0, Value.ref rv, Value.int x, Value.int y]) ++ List.replicate (5 - (lg_sl ([Value.ref h0, Value.ref rv, Value.int x, Value.int y])).length) Slot.unset).toArray = ls at hl ⊢
  have hl : lv_has ls 5 [(0, Value.ref h0), (1, Value.ref rv), (2, Value.int x), (3, Value.int y)] := hl
  have hP : va_P D vwCl [(h0, Sum.inr (7, [Value.ref wy1, Value.ref wy2, Value.int qd, Value.ref wy3, Value.ref wy4, Value.int cr])), (wy1, Sum.inl (wc1, 100, Sum.inl s1)), (rv, Sum.inr (5, [Value.int (nI w), Value.int (nI h), Value.ref q1, Value.ref q2, Value.ref q3, Value.ref q4, Value.ref q5, Value.ref q6]))] s.heap := hP
  refine lv_aload_n hx hb dX8_stepsFrom_0 rfl (lv_at hl 0 rfl) ?_
  refine lv_aload_n hx hb dX8_stepsFrom_1 rfl (lv_at hl 1 rfl) ?_
  refine lv_iload_n hx hb dX8_stepsFrom_2 rfl (lv_at hl 2 rfl) ?_
  refine lv_iload_n hx hb dX8_stepsFrom_3 rfl (lv_at hl 3 rfl) ?_
  refine mc_Vi (rest := []) (wr := []) F hK hP hD hS hA (c_stepsAt l D h0 rv wy1 wy2 wy3 wy4 wc1 s1 qd cr q1 q2 q3 q4 q5 q6 w h x y (by omega) (by omega)) ⟨gk_X8_124.1, gk_X8_124.2, Nat.le_of_ble_eq_true rfl, Nat.le_of_ble_eq_true rfl⟩ [0, 1, 2] [] [0] ⟨rfl, rfl, rfl, rfl, by decide⟩ rfl xT_move (fun _ _ _ => trivial) 0 rfl rfl rfl hl.1 rfl (Nat.le_of_ble_eq_true rfl) dX8_stepsFrom_4 ⟨Nat.le_of_ble_eq_true rfl, Nat.le_of_ble_eq_true rfl⟩ (fun r_1 _ H locs hw hK1 hP hD hS => ?_)
  have hP : va_P D vwCl [(h0, Sum.inr (7, [Value.ref wy1, Value.ref wy2, Value.int qd, Value.ref wy3, Value.ref wy4, Value.int cr])), (wy1, Sum.inl (wc1, 100, Sum.inl s1)), (rv, Sum.inr (5, [Value.int (nI w), Value.int (nI h), Value.ref q1, Value.ref q2, Value.ref q3, Value.ref q4, Value.ref q5, Value.ref q6]))] H := hP
  have hD : va_D A [(h0, Sum.inr (7, [Value.ref wy1, Value.ref wy2, Value.int qd, Value.ref wy3, Value.ref wy4, Value.int cr])), (wy1, Sum.inl (wc1, 100, Sum.inl s1)), (rv, Sum.inr (5, [Value.int (nI w), Value.int (nI h), Value.ref q1, Value.ref q2, Value.ref q3, Value.ref q4, Value.ref q5, Value.ref q6]))] := hD
  have hw_2 : r_1 = r_1 := hw
  refine lv_iconst (v := -1) hx hb dX8_stepsFrom_7 (by decide) ?_
  refine lv_icmp_eq (tgt := 19) hx hb dX8_stepsFrom_8 (by decide) (fun c_3 => ?_) (fun c_3 => ?_)
  · skip
    refine lv_aload_n hx hb dX8_stepsFrom_19 rfl (lv_at hl 1 rfl) ?_
    refine lv_iload_n hx hb dX8_stepsFrom_20 rfl (lv_at hl 2 rfl) ?_
    refine lv_iload_n hx hb dX8_stepsFrom_21 rfl (lv_at hl 3 rfl) ?_
    refine mc_Vi (rest := []) (wr := [(h0, Sum.inr (7, [Value.ref wy1, Value.ref wy2, Value.int qd, Value.ref wy3, Value.ref wy4, Value.int cr])), (wy1, Sum.inl (wc1, 100, Sum.inl s1))]) F hK hP hD hS hA (c_has_any l D rv q1 q2 q3 q4 q5 q6 w h x y (by omega) (by omega)) ⟨gk_X8_127.1, gk_X8_127.2, Nat.le_of_ble_eq_true rfl, Nat.le_of_ble_eq_true rfl⟩ [2] [0, 1] [] ⟨rfl, rfl, rfl, rfl, by decide⟩ rfl xT_move (fun _ _ _ => trivial) 2 rfl rfl rfl hl.1 rfl (Nat.le_of_ble_eq_true rfl) dX8_stepsFrom_22 ⟨Nat.le_of_ble_eq_true rfl, Nat.le_of_ble_eq_true rfl⟩ (fun r_4 _ H locs hw hK1 hP hD hS => ?_)
    have hP : va_P D vwCl [(h0, Sum.inr (7, [Value.ref wy1, Value.ref wy2, Value.int qd, Value.ref wy3, Value.ref wy4, Value.int cr])), (wy1, Sum.inl (wc1, 100, Sum.inl s1)), (rv, Sum.inr (5, [Value.int (nI w), Value.int (nI h), Value.ref q1, Value.ref q2, Value.ref q3, Value.ref q4, Value.ref q5, Value.ref q6]))] H := hP
    have hD : va_D A [(h0, Sum.inr (7, [Value.ref wy1, Value.ref wy2, Value.int qd, Value.ref wy3, Value.ref wy4, Value.int cr])), (wy1, Sum.inl (wc1, 100, Sum.inl s1)), (rv, Sum.inr (5, [Value.int (nI w), Value.int (nI h), Value.ref q1, Value.ref q2, Value.ref q3, Value.ref q4, Value.ref q5, Value.ref q6]))] := hD
    have hw_5 : r_4 = (if (x < 0 ∨ ¬ x < nI w ∨ y < 0 ∨ ¬ y < nI h) then 0 else 1) := hw
    refine lv_if_ne (tgt := 30) hx hb dX8_stepsFrom_25 (by decide) (fun c_6 => ?_) (fun c_6 => ?_)
    · skip
      refine lv_aload_n hx hb dX8_stepsFrom_30 rfl (lv_at hl 0 rfl) ?_
      refine lv_aload_n hx hb dX8_stepsFrom_31 rfl (lv_at hl 1 rfl) ?_
      refine lv_iload_n hx hb dX8_stepsFrom_32 rfl (lv_at hl 2 rfl) ?_
      refine lv_iconst (v := 1) hx hb dX8_stepsFrom_33 (by decide) ?_
      refine lv_isub hx hb dX8_stepsFrom_34 ?_
      refine lv_topi (fun z_7 ez_7 => ?_)
      refine lv_iload_n hx hb dX8_stepsFrom_35 rfl (lv_at hl 3 rfl) ?_
      refine mc_Vi (rest := []) (wr := []) F hK hP hD hS hA (c_stepsAt l D h0 rv wy1 wy2 wy3 wy4 wc1 s1 qd cr q1 q2 q3 q4 q5 q6 w h z_7 y (by omega) (by omega)) ⟨gk_X8_124.1, gk_X8_124.2, Nat.le_of_ble_eq_true rfl, Nat.le_of_ble_eq_true rfl⟩ [0, 1, 2] [] [0] ⟨rfl, rfl, rfl, rfl, by decide⟩ rfl xT_move (fun _ _ _ => trivial) 0 rfl rfl rfl hl.1 rfl (Nat.le_of_ble_eq_true rfl) dX8_stepsFrom_36 ⟨Nat.le_of_ble_eq_true rfl, Nat.le_of_ble_eq_true rfl⟩ (fun r_8 _ H locs hw hK1 hP hD hS => ?_)
      have hP : va_P D vwCl [(h0, Sum.inr (7, [Value.ref wy1, Value.ref wy2, Value.int qd, Value.ref wy3, Value.ref wy4, Value.int cr])), (wy1, Sum.inl (wc1, 100, Sum.inl s1)), (rv, Sum.inr (5, [Value.int (nI w), Value.int (nI h), Value.ref q1, Value.ref q2, Value.ref q3, Value.ref q4, Value.ref q5, Value.ref q6]))] H := hP
      have hD : va_D A [(h0, Sum.inr (7, [Value.ref wy1, Value.ref wy2, Value.int qd, Value.ref wy3, Value.ref wy4, Value.int cr])), (wy1, Sum.inl (wc1, 100, Sum.inl s1)), (rv, Sum.inr (5, [Value.int (nI w), Value.int (nI h), Value.ref q1, Value.ref q2, Value.ref q3, Value.ref q4, Value.ref q5, Value.ref q6]))] := hD
      have hw_9 : r_8 = r_8 := hw
      refine lv_aload_n hx hb dX8_stepsFrom_39 rfl (lv_at hl 0 rfl) ?_
      refine lv_aload_n hx hb dX8_stepsFrom_40 rfl (lv_at hl 1 rfl) ?_
      refine lv_iload_n hx hb dX8_stepsFrom_41 rfl (lv_at hl 2 rfl) ?_
      refine lv_iconst (v := 1) hx hb dX8_stepsFrom_42 (by decide) ?_
      refine lv_iadd hx hb dX8_stepsFrom_43 ?_
      refine lv_topi (fun z_10 ez_10 => ?_)
      refine lv_iload_n hx hb dX8_stepsFrom_44 rfl (lv_at hl 3 rfl) ?_
      refine mc_Vi (rest := [Value.int r_8]) (wr := []) F hK hP hD hS hA (c_stepsAt l D h0 rv wy1 wy2 wy3 wy4 wc1 s1 qd cr q1 q2 q3 q4 q5 q6 w h z_10 y (by omega) (by omega)) ⟨gk_X8_124.1, gk_X8_124.2, Nat.le_of_ble_eq_true rfl, Nat.le_of_ble_eq_true rfl⟩ [0, 1, 2] [] [0] ⟨rfl, rfl, rfl, rfl, by decide⟩ rfl xT_move (fun _ _ _ => trivial) 0 rfl rfl rfl hl.1 rfl (Nat.le_of_ble_eq_true rfl) dX8_stepsFrom_45 ⟨Nat.le_of_ble_eq_true rfl, Nat.le_of_ble_eq_true rfl⟩ (fun r_11 _ H locs hw hK1 hP hD hS => ?_)
      have hP : va_P D vwCl [(h0, Sum.inr (7, [Value.ref wy1, Value.ref wy2, Value.int qd, Value.ref wy3, Value.ref wy4, Value.int cr])), (wy1, Sum.inl (wc1, 100, Sum.inl s1)), (rv, Sum.inr (5, [Value.int (nI w), Value.int (nI h), Value.ref q1, Value.ref q2, Value.ref q3, Value.ref q4, Value.ref q5, Value.ref q6]))] H := hP
      have hD : va_D A [(h0, Sum.inr (7, [Value.ref wy1, Value.ref wy2, Value.int qd, Value.ref wy3, Value.ref wy4, Value.int cr])), (wy1, Sum.inl (wc1, 100, Sum.inl s1)), (rv, Sum.inr (5, [Value.int (nI w), Value.int (nI h), Value.ref q1, Value.ref q2, Value.ref q3, Value.ref q4, Value.ref q5, Value.ref q6]))] := hD
      have hw_12 : r_11 = r_11 := hw
      refine mc_Si (rest := []) (wr := [(h0, Sum.inr (7, [Value.ref wy1, Value.ref wy2, Value.int qd, Value.ref wy3, Value.ref wy4, Value.int cr])), (wy1, Sum.inl (wc1, 100, Sum.inl s1)), (rv, Sum.inr (5, [Value.int (nI w), Value.int (nI h), Value.ref q1, Value.ref q2, Value.ref q3, Value.ref q4, Value.ref q5, Value.ref q6]))]) F hK hP hD hS hA (c_nearer l D r_8 r_11 ) ⟨gk_X8_59.1, gk_X8_59.2, Nat.le_of_ble_eq_true rfl, Nat.le_of_ble_eq_true rfl⟩ [] [0, 1, 2] [] ⟨rfl, rfl, rfl, rfl, by decide⟩ rfl xT_move (fun _ _ _ => trivial) rfl hl.1 rfl (Nat.le_of_ble_eq_true rfl) dX8_stepsFrom_48 ⟨Nat.le_of_ble_eq_true rfl, Nat.le_of_ble_eq_true rfl⟩ (fun r_13 _ H locs hw hK1 hP hD hS => ?_)
      have hP : va_P D vwCl [(h0, Sum.inr (7, [Value.ref wy1, Value.ref wy2, Value.int qd, Value.ref wy3, Value.ref wy4, Value.int cr])), (wy1, Sum.inl (wc1, 100, Sum.inl s1)), (rv, Sum.inr (5, [Value.int (nI w), Value.int (nI h), Value.ref q1, Value.ref q2, Value.ref q3, Value.ref q4, Value.ref q5, Value.ref q6]))] H := hP
      have hD : va_D A [(h0, Sum.inr (7, [Value.ref wy1, Value.ref wy2, Value.int qd, Value.ref wy3, Value.ref wy4, Value.int cr])), (wy1, Sum.inl (wc1, 100, Sum.inl s1)), (rv, Sum.inr (5, [Value.int (nI w), Value.int (nI h), Value.ref q1, Value.ref q2, Value.ref q3, Value.ref q4, Value.ref q5, Value.ref q6]))] := hD
      have hw_14 : r_13 = r_13 := hw
      refine lv_istore (lv' := [(4, Value.int r_13), (0, Value.ref h0), (1, Value.ref rv), (2, Value.int x), (3, Value.int y)]) hx hb dX8_stepsFrom_51 hl (by decide) rfl (fun ls hl => ?_)
      refine lv_iload hx hb dX8_stepsFrom_53 (lv_at hl 0 rfl) ?_
      refine lv_aload_n hx hb dX8_stepsFrom_55 rfl (lv_at hl 1 rfl) ?_
      refine lv_aload_n hx hb dX8_stepsFrom_56 rfl (lv_at hl 2 rfl) ?_
      refine lv_iload_n hx hb dX8_stepsFrom_57 rfl (lv_at hl 3 rfl) ?_
      refine lv_iload_n hx hb dX8_stepsFrom_58 rfl (lv_at hl 4 rfl) ?_
      refine lv_iconst (v := 1) hx hb dX8_stepsFrom_59 (by decide) ?_
      refine lv_isub hx hb dX8_stepsFrom_60 ?_
      refine lv_topi (fun z_15 ez_15 => ?_)
      refine mc_Vi (rest := [Value.int r_13]) (wr := []) F hK hP hD hS hA (c_stepsAt l D h0 rv wy1 wy2 wy3 wy4 wc1 s1 qd cr q1 q2 q3 q4 q5 q6 w h x z_15 (by omega) (by omega)) ⟨gk_X8_124.1, gk_X8_124.2, Nat.le_of_ble_eq_true rfl, Nat.le_of_ble_eq_true rfl⟩ [0, 1, 2] [] [0] ⟨rfl, rfl, rfl, rfl, by decide⟩ rfl xT_move (fun _ _ _ => trivial) 0 rfl rfl rfl hl.1 rfl (Nat.le_of_ble_eq_true rfl) dX8_stepsFrom_61 ⟨Nat.le_of_ble_eq_true rfl, Nat.le_of_ble_eq_true rfl⟩ (fun r_16 _ H locs hw hK1 hP hD hS => ?_)
      have hP : va_P D vwCl [(h0, Sum.inr (7, [Value.ref wy1, Value.ref wy2, Value.int qd, Value.ref wy3, Value.ref wy4, Value.int cr])), (wy1, Sum.inl (wc1, 100, Sum.inl s1)), (rv, Sum.inr (5, [Value.int (nI w), Value.int (nI h), Value.ref q1, Value.ref q2, Value.ref q3, Value.ref q4, Value.ref q5, Value.ref q6]))] H := hP
      have hD : va_D A [(h0, Sum.inr (7, [Value.ref wy1, Value.ref wy2, Value.int qd, Value.ref wy3, Value.ref wy4, Value.int cr])), (wy1, Sum.inl (wc1, 100, Sum.inl s1)), (rv, Sum.inr (5, [Value.int (nI w), Value.int (nI h), Value.ref q1, Value.ref q2, Value.ref q3, Value.ref q4, Value.ref q5, Value.ref q6]))] := hD
      have hw_17 : r_16 = r_16 := hw
      refine lv_aload_n hx hb dX8_stepsFrom_64 rfl (lv_at hl 1 rfl) ?_
      refine lv_aload_n hx hb dX8_stepsFrom_65 rfl (lv_at hl 2 rfl) ?_
      refine lv_iload_n hx hb dX8_stepsFrom_66 rfl (lv_at hl 3 rfl) ?_
      refine lv_iload_n hx hb dX8_stepsFrom_67 rfl (lv_at hl 4 rfl) ?_
      refine lv_iconst (v := 1) hx hb dX8_stepsFrom_68 (by decide) ?_
      refine lv_iadd hx hb dX8_stepsFrom_69 ?_
      refine lv_topi (fun z_18 ez_18 => ?_)
      refine mc_Vi (rest := [Value.int r_16, Value.int r_13]) (wr := []) F hK hP hD hS hA (c_stepsAt l D h0 rv wy1 wy2 wy3 wy4 wc1 s1 qd cr q1 q2 q3 q4 q5 q6 w h x z_18 (by omega) (by omega)) ⟨gk_X8_124.1, gk_X8_124.2, Nat.le_of_ble_eq_true rfl, Nat.le_of_ble_eq_true rfl⟩ [0, 1, 2] [] [0] ⟨rfl, rfl, rfl, rfl, by decide⟩ rfl xT_move (fun _ _ _ => trivial) 0 rfl rfl rfl hl.1 rfl (Nat.le_of_ble_eq_true rfl) dX8_stepsFrom_70 ⟨Nat.le_of_ble_eq_true rfl, Nat.le_of_ble_eq_true rfl⟩ (fun r_19 _ H locs hw hK1 hP hD hS => ?_)
      have hP : va_P D vwCl [(h0, Sum.inr (7, [Value.ref wy1, Value.ref wy2, Value.int qd, Value.ref wy3, Value.ref wy4, Value.int cr])), (wy1, Sum.inl (wc1, 100, Sum.inl s1)), (rv, Sum.inr (5, [Value.int (nI w), Value.int (nI h), Value.ref q1, Value.ref q2, Value.ref q3, Value.ref q4, Value.ref q5, Value.ref q6]))] H := hP
      have hD : va_D A [(h0, Sum.inr (7, [Value.ref wy1, Value.ref wy2, Value.int qd, Value.ref wy3, Value.ref wy4, Value.int cr])), (wy1, Sum.inl (wc1, 100, Sum.inl s1)), (rv, Sum.inr (5, [Value.int (nI w), Value.int (nI h), Value.ref q1, Value.ref q2, Value.ref q3, Value.ref q4, Value.ref q5, Value.ref q6]))] := hD
      have hw_20 : r_19 = r_19 := hw
      refine mc_Si (rest := [Value.int r_13]) (wr := [(h0, Sum.inr (7, [Value.ref wy1, Value.ref wy2, Value.int qd, Value.ref wy3, Value.ref wy4, Value.int cr])), (wy1, Sum.inl (wc1, 100, Sum.inl s1)), (rv, Sum.inr (5, [Value.int (nI w), Value.int (nI h), Value.ref q1, Value.ref q2, Value.ref q3, Value.ref q4, Value.ref q5, Value.ref q6]))]) F hK hP hD hS hA (c_nearer l D r_16 r_19 ) ⟨gk_X8_59.1, gk_X8_59.2, Nat.le_of_ble_eq_true rfl, Nat.le_of_ble_eq_true rfl⟩ [] [0, 1, 2] [] ⟨rfl, rfl, rfl, rfl, by decide⟩ rfl xT_move (fun _ _ _ => trivial) rfl hl.1 rfl (Nat.le_of_ble_eq_true rfl) dX8_stepsFrom_73 ⟨Nat.le_of_ble_eq_true rfl, Nat.le_of_ble_eq_true rfl⟩ (fun r_21 _ H locs hw hK1 hP hD hS => ?_)
      have hP : va_P D vwCl [(h0, Sum.inr (7, [Value.ref wy1, Value.ref wy2, Value.int qd, Value.ref wy3, Value.ref wy4, Value.int cr])), (wy1, Sum.inl (wc1, 100, Sum.inl s1)), (rv, Sum.inr (5, [Value.int (nI w), Value.int (nI h), Value.ref q1, Value.ref q2, Value.ref q3, Value.ref q4, Value.ref q5, Value.ref q6]))] H := hP
      have hD : va_D A [(h0, Sum.inr (7, [Value.ref wy1, Value.ref wy2, Value.int qd, Value.ref wy3, Value.ref wy4, Value.int cr])), (wy1, Sum.inl (wc1, 100, Sum.inl s1)), (rv, Sum.inr (5, [Value.int (nI w), Value.int (nI h), Value.ref q1, Value.ref q2, Value.ref q3, Value.ref q4, Value.ref q5, Value.ref q6]))] := hD
      have hw_22 : r_21 = r_21 := hw
      refine mc_Si (rest := []) (wr := [(h0, Sum.inr (7, [Value.ref wy1, Value.ref wy2, Value.int qd, Value.ref wy3, Value.ref wy4, Value.int cr])), (wy1, Sum.inl (wc1, 100, Sum.inl s1)), (rv, Sum.inr (5, [Value.int (nI w), Value.int (nI h), Value.ref q1, Value.ref q2, Value.ref q3, Value.ref q4, Value.ref q5, Value.ref q6]))]) F hK hP hD hS hA (c_nearer l D r_13 r_21 ) ⟨gk_X8_59.1, gk_X8_59.2, Nat.le_of_ble_eq_true rfl, Nat.le_of_ble_eq_true rfl⟩ [] [0, 1, 2] [] ⟨rfl, rfl, rfl, rfl, by decide⟩ rfl xT_move (fun _ _ _ => trivial) rfl hl.1 rfl (Nat.le_of_ble_eq_true rfl) dX8_stepsFrom_76 ⟨Nat.le_of_ble_eq_true rfl, Nat.le_of_ble_eq_true rfl⟩ (fun r_23 _ H locs hw hK1 hP hD hS => ?_)
      have hP : va_P D vwCl [(h0, Sum.inr (7, [Value.ref wy1, Value.ref wy2, Value.int qd, Value.ref wy3, Value.ref wy4, Value.int cr])), (wy1, Sum.inl (wc1, 100, Sum.inl s1)), (rv, Sum.inr (5, [Value.int (nI w), Value.int (nI h), Value.ref q1, Value.ref q2, Value.ref q3, Value.ref q4, Value.ref q5, Value.ref q6]))] H := hP
      have hD : va_D A [(h0, Sum.inr (7, [Value.ref wy1, Value.ref wy2, Value.int qd, Value.ref wy3, Value.ref wy4, Value.int cr])), (wy1, Sum.inl (wc1, 100, Sum.inl s1)), (rv, Sum.inr (5, [Value.int (nI w), Value.int (nI h), Value.ref q1, Value.ref q2, Value.ref q3, Value.ref q4, Value.ref q5, Value.ref q6]))] := hD
      have hw_24 : r_23 = r_23 := hw
      refine lv_istore (lv' := [(4, Value.int r_23), (0, Value.ref h0), (1, Value.ref rv), (2, Value.int x), (3, Value.int y)]) hx hb dX8_stepsFrom_79 hl (by decide) rfl (fun ls hl => ?_)
      refine lv_iload hx hb dX8_stepsFrom_81 (lv_at hl 0 rfl) ?_
      refine lv_iconst (v := -1) hx hb dX8_stepsFrom_83 (by decide) ?_
      refine lv_icmp_ne (tgt := 91) hx hb dX8_stepsFrom_84 (by decide) (fun c_25 => ?_) (fun c_25 => ?_)
      · skip
        refine lv_iload hx hb dX8_stepsFrom_91 (lv_at hl 0 rfl) ?_
        refine lv_iconst (v := 1) hx hb dX8_stepsFrom_93 (by decide) ?_
        refine lv_iadd hx hb dX8_stepsFrom_94 ?_
        refine lv_topi (fun z_26 ez_26 => ?_)
        have hP9 := hP.sub (ws' := [(h0, Sum.inr (7, [Value.ref wy1, Value.ref wy2, Value.int qd, Value.ref wy3, Value.ref wy4, Value.int cr])), (wy1, Sum.inl (wc1, 100, Sum.inl s1)), (rv, Sum.inr (5, [Value.int (nI w), Value.int (nI h), Value.ref q1, Value.ref q2, Value.ref q3, Value.ref q4, Value.ref q5, Value.ref q6]))]) [0, 1, 2] rfl
        have hD9 := hD.sub (ws' := [(h0, Sum.inr (7, [Value.ref wy1, Value.ref wy2, Value.int qd, Value.ref wy3, Value.ref wy4, Value.int cr])), (wy1, Sum.inl (wc1, 100, Sum.inl s1)), (rv, Sum.inr (5, [Value.int (nI w), Value.int (nI h), Value.ref q1, Value.ref q2, Value.ref q3, Value.ref q4, Value.ref q5, Value.ref q6]))]) [0, 1, 2] (by decide) rfl
        have hK9 := hK.sub (tys' := []) [] rfl
        refine W.widen (k := 0) (n := 0) (by decide) (by decide) ?_
        exact W.iret (v := z_26) hx hb hr (fun t ht hW => ⟨⟨z_26, (), rfl, rfl, by rw [ht]; exact hP9, va_K.moved hW.alike hK9, hD9⟩, hS.F ht⟩) hS.2.2 dX8_stepsFrom_95
      · skip
        refine lv_iconst (v := -1) hx hb dX8_stepsFrom_87 (by decide) ?_
        refine lv_goto (tgt := 95) hx hb dX8_stepsFrom_88 (by decide) ?_
        have hP9 := hP.sub (ws' := [(h0, Sum.inr (7, [Value.ref wy1, Value.ref wy2, Value.int qd, Value.ref wy3, Value.ref wy4, Value.int cr])), (wy1, Sum.inl (wc1, 100, Sum.inl s1)), (rv, Sum.inr (5, [Value.int (nI w), Value.int (nI h), Value.ref q1, Value.ref q2, Value.ref q3, Value.ref q4, Value.ref q5, Value.ref q6]))]) [0, 1, 2] rfl
        have hD9 := hD.sub (ws' := [(h0, Sum.inr (7, [Value.ref wy1, Value.ref wy2, Value.int qd, Value.ref wy3, Value.ref wy4, Value.int cr])), (wy1, Sum.inl (wc1, 100, Sum.inl s1)), (rv, Sum.inr (5, [Value.int (nI w), Value.int (nI h), Value.ref q1, Value.ref q2, Value.ref q3, Value.ref q4, Value.ref q5, Value.ref q6]))]) [0, 1, 2] (by decide) rfl
        have hK9 := hK.sub (tys' := []) [] rfl
        refine W.widen (k := 0) (n := 0) (by decide) (by decide) ?_
        exact W.iret (v := (-1)) hx hb hr (fun t ht hW => ⟨⟨((-1)), (), rfl, rfl, by rw [ht]; exact hP9, va_K.moved hW.alike hK9, hD9⟩, hS.F ht⟩) hS.2.2 dX8_stepsFrom_95
    · skip
      refine lv_iconst (v := -1) hx hb dX8_stepsFrom_28 (by decide) ?_
      have hP9 := hP.sub (ws' := [(h0, Sum.inr (7, [Value.ref wy1, Value.ref wy2, Value.int qd, Value.ref wy3, Value.ref wy4, Value.int cr])), (wy1, Sum.inl (wc1, 100, Sum.inl s1)), (rv, Sum.inr (5, [Value.int (nI w), Value.int (nI h), Value.ref q1, Value.ref q2, Value.ref q3, Value.ref q4, Value.ref q5, Value.ref q6]))]) [0, 1, 2] rfl
      have hD9 := hD.sub (ws' := [(h0, Sum.inr (7, [Value.ref wy1, Value.ref wy2, Value.int qd, Value.ref wy3, Value.ref wy4, Value.int cr])), (wy1, Sum.inl (wc1, 100, Sum.inl s1)), (rv, Sum.inr (5, [Value.int (nI w), Value.int (nI h), Value.ref q1, Value.ref q2, Value.ref q3, Value.ref q4, Value.ref q5, Value.ref q6]))]) [0, 1, 2] (by decide) rfl
      have hK9 := hK.sub (tys' := []) [] rfl
      refine W.widen (k := 0) (n := 0) (by decide) (by decide) ?_
      exact W.iret (v := (-1)) hx hb hr (fun t ht hW => ⟨⟨((-1)), (), rfl, rfl, by rw [ht]; exact hP9, va_K.moved hW.alike hK9, hD9⟩, hS.F ht⟩) hS.2.2 dX8_stepsFrom_29
  · skip
    refine lv_aload_n hx hb dX8_stepsFrom_11 rfl (lv_at hl 0 rfl) ?_
    refine lv_aload_n hx hb dX8_stepsFrom_12 rfl (lv_at hl 1 rfl) ?_
    refine lv_iload_n hx hb dX8_stepsFrom_13 rfl (lv_at hl 2 rfl) ?_
    refine lv_iload_n hx hb dX8_stepsFrom_14 rfl (lv_at hl 3 rfl) ?_
    refine mc_Vi (rest := []) (wr := []) F hK hP hD hS hA (c_stepsAt l D h0 rv wy1 wy2 wy3 wy4 wc1 s1 qd cr q1 q2 q3 q4 q5 q6 w h x y (by omega) (by omega)) ⟨gk_X8_124.1, gk_X8_124.2, Nat.le_of_ble_eq_true rfl, Nat.le_of_ble_eq_true rfl⟩ [0, 1, 2] [] [0] ⟨rfl, rfl, rfl, rfl, by decide⟩ rfl xT_move (fun _ _ _ => trivial) 0 rfl rfl rfl hl.1 rfl (Nat.le_of_ble_eq_true rfl) dX8_stepsFrom_15 ⟨Nat.le_of_ble_eq_true rfl, Nat.le_of_ble_eq_true rfl⟩ (fun r_27 _ H locs hw hK1 hP hD hS => ?_)
    have hP : va_P D vwCl [(h0, Sum.inr (7, [Value.ref wy1, Value.ref wy2, Value.int qd, Value.ref wy3, Value.ref wy4, Value.int cr])), (wy1, Sum.inl (wc1, 100, Sum.inl s1)), (rv, Sum.inr (5, [Value.int (nI w), Value.int (nI h), Value.ref q1, Value.ref q2, Value.ref q3, Value.ref q4, Value.ref q5, Value.ref q6]))] H := hP
    have hD : va_D A [(h0, Sum.inr (7, [Value.ref wy1, Value.ref wy2, Value.int qd, Value.ref wy3, Value.ref wy4, Value.int cr])), (wy1, Sum.inl (wc1, 100, Sum.inl s1)), (rv, Sum.inr (5, [Value.int (nI w), Value.int (nI h), Value.ref q1, Value.ref q2, Value.ref q3, Value.ref q4, Value.ref q5, Value.ref q6]))] := hD
    have hw_28 : r_27 = r_27 := hw
    have hP9 := hP.sub (ws' := [(h0, Sum.inr (7, [Value.ref wy1, Value.ref wy2, Value.int qd, Value.ref wy3, Value.ref wy4, Value.int cr])), (wy1, Sum.inl (wc1, 100, Sum.inl s1)), (rv, Sum.inr (5, [Value.int (nI w), Value.int (nI h), Value.ref q1, Value.ref q2, Value.ref q3, Value.ref q4, Value.ref q5, Value.ref q6]))]) [0, 1, 2] rfl
    have hD9 := hD.sub (ws' := [(h0, Sum.inr (7, [Value.ref wy1, Value.ref wy2, Value.int qd, Value.ref wy3, Value.ref wy4, Value.int cr])), (wy1, Sum.inl (wc1, 100, Sum.inl s1)), (rv, Sum.inr (5, [Value.int (nI w), Value.int (nI h), Value.ref q1, Value.ref q2, Value.ref q3, Value.ref q4, Value.ref q5, Value.ref q6]))]) [0, 1, 2] (by decide) rfl
    have hK9 := hK.sub (tys' := []) [] rfl
    refine W.widen (k := 0) (n := 0) (by decide) (by decide) ?_
    exact W.iret (v := r_27) hx hb hr (fun t ht hW => ⟨⟨r_27, (), rfl, rfl, by rw [ht]; exact hP9, va_K.moved hW.alike hK9, hD9⟩, hS.F ht⟩) hS.2.2 dX8_stepsFrom_18
theorem dX8_reach_0 : decode cX8_reach 0 = .ok (.aload_n 1, 1) := by decide +kernel
theorem dX8_reach_1 : decode cX8_reach 1 = .ok (.iload_n 2, 1) := by decide +kernel
theorem dX8_reach_2 : decode cX8_reach 2 = .ok (.iload_n 3, 1) := by decide +kernel
theorem kw_4_14 : Cond.methodLink RX8 115 yX6_isFirm ∈ gw := gw_t4 (List.mem_of_getElem? (i := 14) (by decide +kernel)) (by decide +kernel)
theorem gk_X8_115 : GoodIn gw (wsV RX8 115 RX6 yX6_isFirm (.code yX6_isFirm cX6_isFirm 4 (some .boolean) :: gw)) ∧ (yX6_isFirm.cls = RX6 ∧ yX6_isFirm.cls ≠ "java/lang/invoke/MethodHandle" ∧ yX6_isFirm.cls ≠ "java/lang/invoke/VarHandle" ∧ (parseMethodDescriptor yX6_isFirm.desc).map (fun d => d.parameters.length) = some 2) := ⟨gi_V kw_4_14 kw_3_44 kw_3_45 kw_1_7 kw_3_46, by decide +kernel⟩
theorem dX8_reach_3 : decode cX8_reach 3 = .ok (.invokevirtual 115, 3) := by decide +kernel
theorem dX8_reach_6 : decode cX8_reach 6 = .ok (.ifCond .eq 27, 3) := by decide +kernel
theorem dX8_reach_33 : decode cX8_reach 33 = .ok (.return_, 1) := by decide +kernel
theorem dX8_reach_9 : decode cX8_reach 9 = .ok (.aload_n 0, 1) := by decide +kernel
theorem dX8_reach_10 : decode cX8_reach 10 = .ok (.getfield 9, 3) := by decide +kernel
theorem dX8_reach_13 : decode cX8_reach 13 = .ok (.aload_n 1, 1) := by decide +kernel
theorem dX8_reach_14 : decode cX8_reach 14 = .ok (.iload_n 2, 1) := by decide +kernel
theorem dX8_reach_15 : decode cX8_reach 15 = .ok (.iload_n 3, 1) := by decide +kernel
theorem dX8_reach_16 : decode cX8_reach 16 = .ok (.invokevirtual 121, 3) := by decide +kernel
theorem dX8_reach_19 : decode cX8_reach 19 = .ok (.iaload, 1) := by decide +kernel
theorem dX8_reach_20 : decode cX8_reach 20 = .ok (.iconst (-1), 1) := by decide +kernel
theorem dX8_reach_21 : decode cX8_reach 21 = .ok (.if_icmp .ne 12, 3) := by decide +kernel
theorem dX8_reach_24 : decode cX8_reach 24 = .ok (.aload_n 0, 1) := by decide +kernel
theorem kw_2_50 : Cond.fieldLink RX8 102 "IceFair$WayOff" "queued" "I" ∈ gw := gw_t2 (List.mem_of_getElem? (i := 50) (by decide +kernel)) (by decide +kernel)
theorem dX8_reach_25 : decode cX8_reach 25 = .ok (.getfield 102, 3) := by decide +kernel
theorem dX8_reach_28 : decode cX8_reach 28 = .ok (.bipush 100, 2) := by decide +kernel
theorem dX8_reach_30 : decode cX8_reach 30 = .ok (.if_icmp .lt 4, 3) := by decide +kernel
theorem dX8_reach_34 : decode cX8_reach 34 = .ok (.aload_n 0, 1) := by decide +kernel
theorem dX8_reach_35 : decode cX8_reach 35 = .ok (.getfield 9, 3) := by decide +kernel
theorem dX8_reach_38 : decode cX8_reach 38 = .ok (.aload_n 1, 1) := by decide +kernel
theorem dX8_reach_39 : decode cX8_reach 39 = .ok (.iload_n 2, 1) := by decide +kernel
theorem dX8_reach_40 : decode cX8_reach 40 = .ok (.iload_n 3, 1) := by decide +kernel
theorem dX8_reach_41 : decode cX8_reach 41 = .ok (.invokevirtual 121, 3) := by decide +kernel
theorem dX8_reach_44 : decode cX8_reach 44 = .ok (.iload 4, 2) := by decide +kernel
theorem dX8_reach_46 : decode cX8_reach 46 = .ok (.iastore, 1) := by decide +kernel
theorem dX8_reach_47 : decode cX8_reach 47 = .ok (.aload_n 0, 1) := by decide +kernel
theorem dX8_reach_48 : decode cX8_reach 48 = .ok (.getfield 15, 3) := by decide +kernel
theorem dX8_reach_51 : decode cX8_reach 51 = .ok (.aload_n 0, 1) := by decide +kernel
theorem dX8_reach_52 : decode cX8_reach 52 = .ok (.getfield 102, 3) := by decide +kernel
theorem dX8_reach_55 : decode cX8_reach 55 = .ok (.aload_n 1, 1) := by decide +kernel
theorem dX8_reach_56 : decode cX8_reach 56 = .ok (.iload_n 2, 1) := by decide +kernel
theorem dX8_reach_57 : decode cX8_reach 57 = .ok (.iload_n 3, 1) := by decide +kernel
theorem dX8_reach_58 : decode cX8_reach 58 = .ok (.invokevirtual 121, 3) := by decide +kernel
theorem dX8_reach_61 : decode cX8_reach 61 = .ok (.iastore, 1) := by decide +kernel
theorem dX8_reach_62 : decode cX8_reach 62 = .ok (.aload_n 0, 1) := by decide +kernel
theorem dX8_reach_63 : decode cX8_reach 63 = .ok (.dup, 1) := by decide +kernel
theorem dX8_reach_64 : decode cX8_reach 64 = .ok (.getfield 102, 3) := by decide +kernel
theorem dX8_reach_67 : decode cX8_reach 67 = .ok (.iconst 1, 1) := by decide +kernel
theorem dX8_reach_68 : decode cX8_reach 68 = .ok (.iadd, 1) := by decide +kernel
theorem dX8_reach_69 : decode cX8_reach 69 = .ok (.putfield 102, 3) := by decide +kernel
theorem dX8_reach_72 : decode cX8_reach 72 = .ok (.return_, 1) := by decide +kernel
set_option maxHeartbeats 4000000 in
set_option maxRecDepth 100000 in
theorem c_reach (l : Launch) (D : va_G) (h0 : Nat) (rv : Nat) (wy1 : Nat) (wy2 : Nat) (wy3 : Nat) (wy4 : Nat) (wc1 : ClassId) (wc2 : ClassId) (s1 : Nat → Int32) (s2 : Nat → Int32) (cr : Int32) (qn : Nat) (q1 : Nat) (q2 : Nat) (q3 : Nat) (q4 : Nat) (q5 : Nat) (q6 : Nat) (cy1 : ClassId) (cy5 : ClassId) (f1 : Nat → Int32) (f5 : Nat → Int32) (w : Nat) (h : Nat) (x : Int32) (y : Int32) (tk : Int32) (h3 : w ≤ 10) (h4 : h ≤ 10) (hq : qn ≤ 100) (hok : qOK s2 qn) : cV l yX8_reach (.code yX8_reach cX8_reach 5 none) ({ frames := 2, cells := 0, slots := 0, locals := 45 }) D [(wc1, .int), (wc2, .int), (cy1, .int), (cy5, .boolean)] [(h0, Sum.inr (7, [Value.ref wy1, Value.ref wy2, Value.int (nI qn), Value.ref wy3, Value.ref wy4, Value.int cr])), (wy1, Sum.inl (wc1, 100, Sum.inl s1)), (wy2, Sum.inl (wc2, 100, Sum.inl s2)), (rv, Sum.inr (5, [Value.int (nI w), Value.int (nI h), Value.ref q1, Value.ref q2, Value.ref q3, Value.ref q4, Value.ref q5, Value.ref q6])), (q1, Sum.inl (cy1, 100, Sum.inl f1)), (q5, Sum.inl (cy5, 100, Sum.inl f5))] xT [Value.ref h0, Value.ref rv, Value.int x, Value.int y, Value.int tk] (S := Nat × (Nat → Int32) × (Nat → Int32)) (fun u => match u with | (q9, t1, t2) => q9 ≤ 100 ∧ qn ≤ q9 ∧ qOK t2 q9) (fun u => match u with | (q9, t1, t2) => []) (fun u => match u with | (q9, t1, t2) => [(h0, Sum.inr (7, [Value.ref wy1, Value.ref wy2, Value.int (nI q9), Value.ref wy3, Value.ref wy4, Value.int cr])), (wy1, Sum.inl (wc1, 100, Sum.inl t1)), (wy2, Sum.inl (wc2, 100, Sum.inl t2)), (rv, Sum.inr (5, [Value.int (nI w), Value.int (nI h), Value.ref q1, Value.ref q2, Value.ref q3, Value.ref q4, Value.ref q5, Value.ref q6])), (q1, Sum.inl (cy1, 100, Sum.inl f1)), (q5, Sum.inl (cy5, 100, Sum.inl f5))]) := by
  intro sz
  refine Met.ofW (cc := cX8_reach) (maxL := 5) (ret := none) (by decide) rfl ?_
  intro p e s m args below meth c s₁ B hml hv
  obtain ⟨rfl, hsz, hP, hK, hD0, hX⟩ := hv
  have hx := B.exec
  have hb := B.bytes
  have hr := B.returns
  have hts0 := atoms_spec (ws := .code yX8_reach cX8_reach 5 none :: gw) B.pre
  have hts := fun (w : Cond) (h : w ∈ gw) => hts0 w (List.mem_cons_of_mem _ h)
  have hown : s.vm.findClass RX8 = some m.cls := findClass_of_methodNamed B.named
  have hlocks := B.notSynchronized
  have F : mFix p s m _ c cX8_reach 5 RX8 := ⟨hx, hb, hml, hown, hts⟩
  subst hsz
  have hD := hD0.self (sz := s.heap.size)
  generalize hAe : va_A [(h0, Sum.inr (7, [Value.ref wy1, Value.ref wy2, Value.int (nI qn), Value.ref wy3, Value.ref wy4, Value.int cr])), (wy1, Sum.inl (wc1, 100, Sum.inl s1)), (wy2, Sum.inl (wc2, 100, Sum.inl s2)), (rv, Sum.inr (5, [Value.int (nI w), Value.int (nI h), Value.ref q1, Value.ref q2, Value.ref q3, Value.ref q4, Value.ref q5, Value.ref q6])), (q1, Sum.inl (cy1, 100, Sum.inl f1)), (q5, Sum.inl (cy5, 100, Sum.inl f5))] s.heap.size = A at hD hX ⊢
  have hA : ∀ q : Nat, s.heap.size ≤ q → A q := fun q h => by rw [← hAe]; exact Or.inr h
  have hS : va_S A s.heap s.heap [] := va_S.rf
  have hl := lv_entry ([Value.ref h0, Value.ref rv, Value.int x, Value.int y, Value.int tk]) (n := 5) (Nat.le_of_ble_eq_true rfl)
  rw [lg_entry_eq]
  generalize (lg_sl ([Value.ref h0, Value.ref rv, Value.int x, Value.int y, Value.int tk]) ++ List.replicate (5 - (lg_sl ([Value.ref h0, Value.ref rv, Value.int x, Value.int y, Value.int tk])).length) Slot.unset).toArray = ls at hl ⊢
  have hl : lv_has ls 5 [(0, Value.ref h0), (1, Value.ref rv), (2, Value.int x), (3, Value.int y), (4, Value.int tk)] := hl
  have hP : va_P D vwCl [(h0, Sum.inr (7, [Value.ref wy1, Value.ref wy2, Value.int (nI qn), Value.ref wy3, Value.ref wy4, Value.int cr])), (wy1, Sum.inl (wc1, 100, Sum.inl s1)), (wy2, Sum.inl (wc2, 100, Sum.inl s2)), (rv, Sum.inr (5, [Value.int (nI w), Value.int (nI h), Value.ref q1, Value.ref q2, Value.ref q3, Value.ref q4, Value.ref q5, Value.ref q6])), (q1, Sum.inl (cy1, 100, Sum.inl f1)), (q5, Sum.inl (cy5, 100, Sum.inl f5))] s.heap := hP
  refine lv_aload_n hx hb dX8_reach_0 rfl (lv_at hl 1 rfl) ?_
  refine lv_iload_n hx hb dX8_reach_1 rfl (lv_at hl 2 rfl) ?_
  refine lv_iload_n hx hb dX8_reach_2 rfl (lv_at hl 3 rfl) ?_
  refine mc_Vi (rest := []) (wr := [(h0, Sum.inr (7, [Value.ref wy1, Value.ref wy2, Value.int (nI qn), Value.ref wy3, Value.ref wy4, Value.int cr])), (wy1, Sum.inl (wc1, 100, Sum.inl s1)), (wy2, Sum.inl (wc2, 100, Sum.inl s2))]) F hK hP hD hS hA (c_isFirm l D rv q1 q2 q3 q4 q5 q6 cy1 cy5 f1 f5 w h x y (by omega) (by omega)) ⟨gk_X8_115.1, gk_X8_115.2, Nat.le_of_ble_eq_true rfl, Nat.le_of_ble_eq_true rfl⟩ [3, 4, 5] [0, 1, 2] [2, 3] ⟨rfl, rfl, rfl, rfl, by decide⟩ rfl xT_move (fun _ _ _ => trivial) 3 rfl rfl rfl hl.1 rfl (Nat.le_of_ble_eq_true rfl) dX8_reach_3 ⟨Nat.le_of_ble_eq_true rfl, Nat.le_of_ble_eq_true rfl⟩ (fun r_1 _ H locs hw hK1 hP hD hS => ?_)
  have hP : va_P D vwCl [(h0, Sum.inr (7, [Value.ref wy1, Value.ref wy2, Value.int (nI qn), Value.ref wy3, Value.ref wy4, Value.int cr])), (wy1, Sum.inl (wc1, 100, Sum.inl s1)), (wy2, Sum.inl (wc2, 100, Sum.inl s2)), (rv, Sum.inr (5, [Value.int (nI w), Value.int (nI h), Value.ref q1, Value.ref q2, Value.ref q3, Value.ref q4, Value.ref q5, Value.ref q6])), (q1, Sum.inl (cy1, 100, Sum.inl f1)), (q5, Sum.inl (cy5, 100, Sum.inl f5))] H := hP
  have hD : va_D A [(h0, Sum.inr (7, [Value.ref wy1, Value.ref wy2, Value.int (nI qn), Value.ref wy3, Value.ref wy4, Value.int cr])), (wy1, Sum.inl (wc1, 100, Sum.inl s1)), (wy2, Sum.inl (wc2, 100, Sum.inl s2)), (rv, Sum.inr (5, [Value.int (nI w), Value.int (nI h), Value.ref q1, Value.ref q2, Value.ref q3, Value.ref q4, Value.ref q5, Value.ref q6])), (q1, Sum.inl (cy1, 100, Sum.inl f1)), (q5, Sum.inl (cy5, 100, Sum.inl f5))] := hD
  have hw_2 : (r_1 = 0 ∨ r_1 = 1) ∧ (¬ r_1 = 0 → ¬ (x < 0 ∨ ¬ x < nI w ∨ y < 0 ∨ ¬ y < nI h)) := hw
  refine lv_if_eq (tgt := 33) hx hb dX8_reach_6 (by decide) (fun c_3 => ?_) (fun c_3 => ?_)
  · skip
    have hP9 := hP.sub (ws' := [(h0, Sum.inr (7, [Value.ref wy1, Value.ref wy2, Value.int (nI qn), Value.ref wy3, Value.ref wy4, Value.int cr])), (wy1, Sum.inl (wc1, 100, Sum.inl s1)), (wy2, Sum.inl (wc2, 100, Sum.inl s2)), (rv, Sum.inr (5, [Value.int (nI w), Value.int (nI h), Value.ref q1, Value.ref q2, Value.ref q3, Value.ref q4, Value.ref q5, Value.ref q6])), (q1, Sum.inl (cy1, 100, Sum.inl f1)), (q5, Sum.inl (cy5, 100, Sum.inl f5))]) [0, 1, 2, 3, 4, 5] rfl
    have hD9 := hD.sub (ws' := [(h0, Sum.inr (7, [Value.ref wy1, Value.ref wy2, Value.int (nI qn), Value.ref wy3, Value.ref wy4, Value.int cr])), (wy1, Sum.inl (wc1, 100, Sum.inl s1)), (wy2, Sum.inl (wc2, 100, Sum.inl s2)), (rv, Sum.inr (5, [Value.int (nI w), Value.int (nI h), Value.ref q1, Value.ref q2, Value.ref q3, Value.ref q4, Value.ref q5, Value.ref q6])), (q1, Sum.inl (cy1, 100, Sum.inl f1)), (q5, Sum.inl (cy5, 100, Sum.inl f5))]) [0, 1, 2, 3, 4, 5] (by decide) rfl
    have hK9 := hK.sub (tys' := []) [] rfl
    refine W.widen (k := 0) (n := 0) (by decide) (by decide) ?_
    exact W.vret hx hb hr (fun t ht hW => ⟨⟨(qn, s1, s2), rfl, ⟨hq, Nat.le_refl _, hok⟩, by rw [ht]; exact hP9, va_K.moved hW.alike hK9, hD9⟩, hS.F ht⟩) hS.2.2 dX8_reach_33
  · skip
    have ho_4 := hw_2.2 c_3
    obtain ⟨i_5, hi_5, ei_5⟩ : ∃ j : Nat, j < w ∧ x = nI j := n_lt (fun q => ho_4 (Or.inl q)) (fun q => ho_4 (Or.inr (Or.inl (Int32.not_lt.mpr q)))) (by omega)
    obtain ⟨j_6, hj_6, ej_6⟩ : ∃ j : Nat, j < h ∧ y = nI j := n_lt (fun q => ho_4 (Or.inr (Or.inr (Or.inl q)))) (fun q => ho_4 (Or.inr (Or.inr (Or.inr (Int32.not_lt.mpr q))))) (by omega)
    subst ei_5
    subst ej_6
    have hl : lv_has ls 5 [(0, Value.ref h0), (1, Value.ref rv), (2, Value.int (nI i_5)), (3, Value.int (nI j_6)), (4, Value.int tk)] := hl
    refine lv_aload_n hx hb dX8_reach_9 rfl (lv_at hl 0 rfl) ?_
    refine va_get (D := D) (ci := 7) (v := Value.ref wy1) (C := RX8) (T := TX8) (N := 6) hx hb hts inG_X8 hown hK hP 0 rfl rfl 0 (by decide) (hts _ kw_2_48) (fun _ h9 => h9) rfl dX8_reach_10 ?_
    refine lv_aload_n hx hb dX8_reach_13 rfl (lv_at hl 1 rfl) ?_
    refine lv_iload_n hx hb dX8_reach_14 rfl (lv_at hl 2 rfl) ?_
    refine lv_iload_n hx hb dX8_reach_15 rfl (lv_at hl 3 rfl) ?_
    refine mc_Vi (rest := [Value.ref wy1]) (wr := [(h0, Sum.inr (7, [Value.ref wy1, Value.ref wy2, Value.int (nI qn), Value.ref wy3, Value.ref wy4, Value.int cr])), (wy1, Sum.inl (wc1, 100, Sum.inl s1)), (wy2, Sum.inl (wc2, 100, Sum.inl s2)), (q1, Sum.inl (cy1, 100, Sum.inl f1)), (q5, Sum.inl (cy5, 100, Sum.inl f5))]) F hK hP hD hS hA (c_spotOf l D rv q1 q2 q3 q4 q5 q6 w h i_5 j_6 ) ⟨gk_X8_121.1, gk_X8_121.2, Nat.le_of_ble_eq_true rfl, Nat.le_of_ble_eq_true rfl⟩ [3] [0, 1, 2, 4, 5] [] ⟨rfl, rfl, rfl, rfl, by decide⟩ rfl xT_move (fun _ _ _ => trivial) 3 rfl rfl rfl hl.1 rfl (Nat.le_of_ble_eq_true rfl) dX8_reach_16 ⟨Nat.le_of_ble_eq_true rfl, Nat.le_of_ble_eq_true rfl⟩ (fun r_7 _ H locs hw hK1 hP hD hS => ?_)
    have hP : va_P D vwCl [(h0, Sum.inr (7, [Value.ref wy1, Value.ref wy2, Value.int (nI qn), Value.ref wy3, Value.ref wy4, Value.int cr])), (wy1, Sum.inl (wc1, 100, Sum.inl s1)), (wy2, Sum.inl (wc2, 100, Sum.inl s2)), (q1, Sum.inl (cy1, 100, Sum.inl f1)), (q5, Sum.inl (cy5, 100, Sum.inl f5)), (rv, Sum.inr (5, [Value.int (nI w), Value.int (nI h), Value.ref q1, Value.ref q2, Value.ref q3, Value.ref q4, Value.ref q5, Value.ref q6]))] H := hP
    have hD : va_D A [(h0, Sum.inr (7, [Value.ref wy1, Value.ref wy2, Value.int (nI qn), Value.ref wy3, Value.ref wy4, Value.int cr])), (wy1, Sum.inl (wc1, 100, Sum.inl s1)), (wy2, Sum.inl (wc2, 100, Sum.inl s2)), (q1, Sum.inl (cy1, 100, Sum.inl f1)), (q5, Sum.inl (cy5, 100, Sum.inl f5)), (rv, Sum.inr (5, [Value.int (nI w), Value.int (nI h), Value.ref q1, Value.ref q2, Value.ref q3, Value.ref q4, Value.ref q5, Value.ref q6]))] := hD
    have hw_8 : r_7 = nI (j_6 * 10 + i_5) := hw
    obtain rfl : r_7 = nI (j_6 * 10 + i_5) := hw_8
    refine m_iald hx hb hK hP 1 0 rfl rfl (j_6 * 10 + i_5) rfl (by omega) (by decide) dX8_reach_19 ?_
    refine lv_topi (fun v_9 ev_9 => ?_)
    refine lv_iconst (v := -1) hx hb dX8_reach_20 (by decide) ?_
    refine lv_icmp_ne (tgt := 33) hx hb dX8_reach_21 (by decide) (fun c_10 => ?_) (fun c_10 => ?_)
    · skip
      have hP9 := hP.sub (ws' := [(h0, Sum.inr (7, [Value.ref wy1, Value.ref wy2, Value.int (nI qn), Value.ref wy3, Value.ref wy4, Value.int cr])), (wy1, Sum.inl (wc1, 100, Sum.inl s1)), (wy2, Sum.inl (wc2, 100, Sum.inl s2)), (rv, Sum.inr (5, [Value.int (nI w), Value.int (nI h), Value.ref q1, Value.ref q2, Value.ref q3, Value.ref q4, Value.ref q5, Value.ref q6])), (q1, Sum.inl (cy1, 100, Sum.inl f1)), (q5, Sum.inl (cy5, 100, Sum.inl f5))]) [0, 1, 2, 5, 3, 4] rfl
      have hD9 := hD.sub (ws' := [(h0, Sum.inr (7, [Value.ref wy1, Value.ref wy2, Value.int (nI qn), Value.ref wy3, Value.ref wy4, Value.int cr])), (wy1, Sum.inl (wc1, 100, Sum.inl s1)), (wy2, Sum.inl (wc2, 100, Sum.inl s2)), (rv, Sum.inr (5, [Value.int (nI w), Value.int (nI h), Value.ref q1, Value.ref q2, Value.ref q3, Value.ref q4, Value.ref q5, Value.ref q6])), (q1, Sum.inl (cy1, 100, Sum.inl f1)), (q5, Sum.inl (cy5, 100, Sum.inl f5))]) [0, 1, 2, 5, 3, 4] (by decide) rfl
      have hK9 := hK.sub (tys' := []) [] rfl
      refine W.widen (k := 0) (n := 0) (by decide) (by decide) ?_
      exact W.vret hx hb hr (fun t ht hW => ⟨⟨(qn, s1, s2), rfl, ⟨hq, Nat.le_refl _, hok⟩, by rw [ht]; exact hP9, va_K.moved hW.alike hK9, hD9⟩, hS.F ht⟩) hS.2.2 dX8_reach_33
    · skip
      refine lv_aload_n hx hb dX8_reach_24 rfl (lv_at hl 0 rfl) ?_
      refine va_get (D := D) (ci := 7) (v := Value.int (nI qn)) (C := RX8) (T := TX8) (N := 6) hx hb hts inG_X8 hown hK hP 0 rfl rfl 2 (by decide) (hts _ kw_2_50) (fun _ h9 => h9) rfl dX8_reach_25 ?_
      refine lv_bipush (v := 100) hx hb dX8_reach_28 (by decide) ?_
      refine lv_icmp_lt (tgt := 34) hx hb dX8_reach_30 (by decide) (fun c_11 => ?_) (fun c_11 => ?_)
      · skip
        have c_11n : qn < 100 := (nI_ltI (by omega) (by omega)).mp c_11
        refine lv_aload_n hx hb dX8_reach_34 rfl (lv_at hl 0 rfl) ?_
        refine va_get (D := D) (ci := 7) (v := Value.ref wy1) (C := RX8) (T := TX8) (N := 6) hx hb hts inG_X8 hown hK hP 0 rfl rfl 0 (by decide) (hts _ kw_2_48) (fun _ h9 => h9) rfl dX8_reach_35 ?_
        refine lv_aload_n hx hb dX8_reach_38 rfl (lv_at hl 1 rfl) ?_
        refine lv_iload_n hx hb dX8_reach_39 rfl (lv_at hl 2 rfl) ?_
        refine lv_iload_n hx hb dX8_reach_40 rfl (lv_at hl 3 rfl) ?_
        refine mc_Vi (rest := [Value.ref wy1]) (wr := [(h0, Sum.inr (7, [Value.ref wy1, Value.ref wy2, Value.int (nI qn), Value.ref wy3, Value.ref wy4, Value.int cr])), (wy1, Sum.inl (wc1, 100, Sum.inl s1)), (wy2, Sum.inl (wc2, 100, Sum.inl s2)), (q1, Sum.inl (cy1, 100, Sum.inl f1)), (q5, Sum.inl (cy5, 100, Sum.inl f5))]) F hK hP hD hS hA (c_spotOf l D rv q1 q2 q3 q4 q5 q6 w h i_5 j_6 ) ⟨gk_X8_121.1, gk_X8_121.2, Nat.le_of_ble_eq_true rfl, Nat.le_of_ble_eq_true rfl⟩ [5] [0, 1, 2, 3, 4] [] ⟨rfl, rfl, rfl, rfl, by decide⟩ rfl xT_move (fun _ _ _ => trivial) 5 rfl rfl rfl hl.1 rfl (Nat.le_of_ble_eq_true rfl) dX8_reach_41 ⟨Nat.le_of_ble_eq_true rfl, Nat.le_of_ble_eq_true rfl⟩ (fun r_12 _ H locs hw hK1 hP hD hS => ?_)
        have hP : va_P D vwCl [(h0, Sum.inr (7, [Value.ref wy1, Value.ref wy2, Value.int (nI qn), Value.ref wy3, Value.ref wy4, Value.int cr])), (wy1, Sum.inl (wc1, 100, Sum.inl s1)), (wy2, Sum.inl (wc2, 100, Sum.inl s2)), (q1, Sum.inl (cy1, 100, Sum.inl f1)), (q5, Sum.inl (cy5, 100, Sum.inl f5)), (rv, Sum.inr (5, [Value.int (nI w), Value.int (nI h), Value.ref q1, Value.ref q2, Value.ref q3, Value.ref q4, Value.ref q5, Value.ref q6]))] H := hP
        have hD : va_D A [(h0, Sum.inr (7, [Value.ref wy1, Value.ref wy2, Value.int (nI qn), Value.ref wy3, Value.ref wy4, Value.int cr])), (wy1, Sum.inl (wc1, 100, Sum.inl s1)), (wy2, Sum.inl (wc2, 100, Sum.inl s2)), (q1, Sum.inl (cy1, 100, Sum.inl f1)), (q5, Sum.inl (cy5, 100, Sum.inl f5)), (rv, Sum.inr (5, [Value.int (nI w), Value.int (nI h), Value.ref q1, Value.ref q2, Value.ref q3, Value.ref q4, Value.ref q5, Value.ref q6]))] := hD
        have hw_13 : r_12 = nI (j_6 * 10 + i_5) := hw
        obtain rfl : r_12 = nI (j_6 * 10 + i_5) := hw_13
        refine lv_iload hx hb dX8_reach_44 (lv_at hl 4 rfl) ?_
        refine m_iast hx hb hK hP hD hS 1 0 rfl rfl (j_6 * 10 + i_5) rfl (by omega) (by decide) dX8_reach_46 (fun g_14 H locs eg_14 hP hD hS => ?_)
        have hP : va_P D vwCl [(h0, Sum.inr (7, [Value.ref wy1, Value.ref wy2, Value.int (nI qn), Value.ref wy3, Value.ref wy4, Value.int cr])), (wy1, Sum.inl (wc1, 100, Sum.inl g_14)), (wy2, Sum.inl (wc2, 100, Sum.inl s2)), (q1, Sum.inl (cy1, 100, Sum.inl f1)), (q5, Sum.inl (cy5, 100, Sum.inl f5)), (rv, Sum.inr (5, [Value.int (nI w), Value.int (nI h), Value.ref q1, Value.ref q2, Value.ref q3, Value.ref q4, Value.ref q5, Value.ref q6]))] H := hP
        have hD : va_D A [(h0, Sum.inr (7, [Value.ref wy1, Value.ref wy2, Value.int (nI qn), Value.ref wy3, Value.ref wy4, Value.int cr])), (wy1, Sum.inl (wc1, 100, Sum.inl g_14)), (wy2, Sum.inl (wc2, 100, Sum.inl s2)), (q1, Sum.inl (cy1, 100, Sum.inl f1)), (q5, Sum.inl (cy5, 100, Sum.inl f5)), (rv, Sum.inr (5, [Value.int (nI w), Value.int (nI h), Value.ref q1, Value.ref q2, Value.ref q3, Value.ref q4, Value.ref q5, Value.ref q6]))] := hD
        refine lv_aload_n hx hb dX8_reach_47 rfl (lv_at hl 0 rfl) ?_
        refine va_get (D := D) (ci := 7) (v := Value.ref wy2) (C := RX8) (T := TX8) (N := 6) hx hb hts inG_X8 hown hK hP 0 rfl rfl 1 (by decide) (hts _ kw_2_49) (fun _ h9 => h9) rfl dX8_reach_48 ?_
        refine lv_aload_n hx hb dX8_reach_51 rfl (lv_at hl 0 rfl) ?_
        refine va_get (D := D) (ci := 7) (v := Value.int (nI qn)) (C := RX8) (T := TX8) (N := 6) hx hb hts inG_X8 hown hK hP 0 rfl rfl 2 (by decide) (hts _ kw_2_50) (fun _ h9 => h9) rfl dX8_reach_52 ?_
        refine lv_aload_n hx hb dX8_reach_55 rfl (lv_at hl 1 rfl) ?_
        refine lv_iload_n hx hb dX8_reach_56 rfl (lv_at hl 2 rfl) ?_
        refine lv_iload_n hx hb dX8_reach_57 rfl (lv_at hl 3 rfl) ?_
        refine mc_Vi (rest := [Value.int (nI qn), Value.ref wy2]) (wr := [(h0, Sum.inr (7, [Value.ref wy1, Value.ref wy2, Value.int (nI qn), Value.ref wy3, Value.ref wy4, Value.int cr])), (wy1, Sum.inl (wc1, 100, Sum.inl g_14)), (wy2, Sum.inl (wc2, 100, Sum.inl s2)), (q1, Sum.inl (cy1, 100, Sum.inl f1)), (q5, Sum.inl (cy5, 100, Sum.inl f5))]) F hK hP hD hS hA (c_spotOf l D rv q1 q2 q3 q4 q5 q6 w h i_5 j_6 ) ⟨gk_X8_121.1, gk_X8_121.2, Nat.le_of_ble_eq_true rfl, Nat.le_of_ble_eq_true rfl⟩ [5] [0, 1, 2, 3, 4] [] ⟨rfl, rfl, rfl, rfl, by decide⟩ rfl xT_move (fun _ _ _ => trivial) 5 rfl rfl rfl hl.1 rfl (Nat.le_of_ble_eq_true rfl) dX8_reach_58 ⟨Nat.le_of_ble_eq_true rfl, Nat.le_of_ble_eq_true rfl⟩ (fun r_15 _ H locs hw hK1 hP hD hS => ?_)
        have hP : va_P D vwCl [(h0, Sum.inr (7, [Value.ref wy1, Value.ref wy2, Value.int (nI qn), Value.ref wy3, Value.ref wy4, Value.int cr])), (wy1, Sum.inl (wc1, 100, Sum.inl g_14)), (wy2, Sum.inl (wc2, 100, Sum.inl s2)), (q1, Sum.inl (cy1, 100, Sum.inl f1)), (q5, Sum.inl (cy5, 100, Sum.inl f5)), (rv, Sum.inr (5, [Value.int (nI w), Value.int (nI h), Value.ref q1, Value.ref q2, Value.ref q3, Value.ref q4, Value.ref q5, Value.ref q6]))] H := hP
        have hD : va_D A [(h0, Sum.inr (7, [Value.ref wy1, Value.ref wy2, Value.int (nI qn), Value.ref wy3, Value.ref wy4, Value.int cr])), (wy1, Sum.inl (wc1, 100, Sum.inl g_14)), (wy2, Sum.inl (wc2, 100, Sum.inl s2)), (q1, Sum.inl (cy1, 100, Sum.inl f1)), (q5, Sum.inl (cy5, 100, Sum.inl f5)), (rv, Sum.inr (5, [Value.int (nI w), Value.int (nI h), Value.ref q1, Value.ref q2, Value.ref q3, Value.ref q4, Value.ref q5, Value.ref q6]))] := hD
        have hw_16 : r_15 = nI (j_6 * 10 + i_5) := hw
        obtain rfl : r_15 = nI (j_6 * 10 + i_5) := hw_16
        refine m_iast hx hb hK hP hD hS 2 1 rfl rfl qn rfl (by omega) (by decide) dX8_reach_61 (fun g_17 H locs eg_17 hP hD hS => ?_)
        have hP : va_P D vwCl [(h0, Sum.inr (7, [Value.ref wy1, Value.ref wy2, Value.int (nI qn), Value.ref wy3, Value.ref wy4, Value.int cr])), (wy1, Sum.inl (wc1, 100, Sum.inl g_14)), (wy2, Sum.inl (wc2, 100, Sum.inl g_17)), (q1, Sum.inl (cy1, 100, Sum.inl f1)), (q5, Sum.inl (cy5, 100, Sum.inl f5)), (rv, Sum.inr (5, [Value.int (nI w), Value.int (nI h), Value.ref q1, Value.ref q2, Value.ref q3, Value.ref q4, Value.ref q5, Value.ref q6]))] H := hP
        have hD : va_D A [(h0, Sum.inr (7, [Value.ref wy1, Value.ref wy2, Value.int (nI qn), Value.ref wy3, Value.ref wy4, Value.int cr])), (wy1, Sum.inl (wc1, 100, Sum.inl g_14)), (wy2, Sum.inl (wc2, 100, Sum.inl g_17)), (q1, Sum.inl (cy1, 100, Sum.inl f1)), (q5, Sum.inl (cy5, 100, Sum.inl f5)), (rv, Sum.inr (5, [Value.int (nI w), Value.int (nI h), Value.ref q1, Value.ref q2, Value.ref q3, Value.ref q4, Value.ref q5, Value.ref q6]))] := hD
        refine lv_aload_n hx hb dX8_reach_62 rfl (lv_at hl 0 rfl) ?_
        refine lv_dup hx hb dX8_reach_63 rfl ?_
        refine va_get (D := D) (ci := 7) (v := Value.int (nI qn)) (C := RX8) (T := TX8) (N := 6) hx hb hts inG_X8 hown hK hP 0 rfl rfl 2 (by decide) (hts _ kw_2_50) (fun _ h9 => h9) rfl dX8_reach_64 ?_
        refine lv_iconst (v := 1) hx hb dX8_reach_67 (by decide) ?_
        refine lv_iadd hx hb dX8_reach_68 ?_
        refine lv_topi (fun z_18 ez_18 => ?_)
        obtain rfl : z_18 = nI (qn + 1) := ez_18.trans (nI_add qn 1)
        refine va_put (D := D) (ci := 7) (v := Value.int (nI (qn + 1))) (ty := .int) (C := RX8) (T := TX8) (N := 6) hx hb hts inG_X8 tyX8 tyX8_ok nmX8 hown hK hP hD hS 0 rfl rfl 2 (by decide) (hts _ kw_2_50) (fun _ h9 => h9) rfl (by decide +kernel) rfl rfl (Nat.le_of_ble_eq_true rfl) dX8_reach_69 (fun H locs hP hD hS => ?_)
        have hP : va_P D vwCl [(h0, Sum.inr (7, [Value.ref wy1, Value.ref wy2, Value.int (nI (qn + 1)), Value.ref wy3, Value.ref wy4, Value.int cr])), (wy1, Sum.inl (wc1, 100, Sum.inl g_14)), (wy2, Sum.inl (wc2, 100, Sum.inl g_17)), (q1, Sum.inl (cy1, 100, Sum.inl f1)), (q5, Sum.inl (cy5, 100, Sum.inl f5)), (rv, Sum.inr (5, [Value.int (nI w), Value.int (nI h), Value.ref q1, Value.ref q2, Value.ref q3, Value.ref q4, Value.ref q5, Value.ref q6]))] H := hP
        have hD : va_D A [(h0, Sum.inr (7, [Value.ref wy1, Value.ref wy2, Value.int (nI (qn + 1)), Value.ref wy3, Value.ref wy4, Value.int cr])), (wy1, Sum.inl (wc1, 100, Sum.inl g_14)), (wy2, Sum.inl (wc2, 100, Sum.inl g_17)), (q1, Sum.inl (cy1, 100, Sum.inl f1)), (q5, Sum.inl (cy5, 100, Sum.inl f5)), (rv, Sum.inr (5, [Value.int (nI w), Value.int (nI h), Value.ref q1, Value.ref q2, Value.ref q3, Value.ref q4, Value.ref q5, Value.ref q6]))] := hD
        have hP9 := hP.sub (ws' := [(h0, Sum.inr (7, [Value.ref wy1, Value.ref wy2, Value.int (nI (qn + 1)), Value.ref wy3, Value.ref wy4, Value.int cr])), (wy1, Sum.inl (wc1, 100, Sum.inl g_14)), (wy2, Sum.inl (wc2, 100, Sum.inl g_17)), (rv, Sum.inr (5, [Value.int (nI w), Value.int (nI h), Value.ref q1, Value.ref q2, Value.ref q3, Value.ref q4, Value.ref q5, Value.ref q6])), (q1, Sum.inl (cy1, 100, Sum.inl f1)), (q5, Sum.inl (cy5, 100, Sum.inl f5))]) [0, 1, 2, 5, 3, 4] rfl
        have hD9 := hD.sub (ws' := [(h0, Sum.inr (7, [Value.ref wy1, Value.ref wy2, Value.int (nI (qn + 1)), Value.ref wy3, Value.ref wy4, Value.int cr])), (wy1, Sum.inl (wc1, 100, Sum.inl g_14)), (wy2, Sum.inl (wc2, 100, Sum.inl g_17)), (rv, Sum.inr (5, [Value.int (nI w), Value.int (nI h), Value.ref q1, Value.ref q2, Value.ref q3, Value.ref q4, Value.ref q5, Value.ref q6])), (q1, Sum.inl (cy1, 100, Sum.inl f1)), (q5, Sum.inl (cy5, 100, Sum.inl f5))]) [0, 1, 2, 5, 3, 4] (by decide) rfl
        have hK9 := hK.sub (tys' := []) [] rfl
        refine W.widen (k := 0) (n := 0) (by decide) (by decide) ?_
        exact W.vret hx hb hr (fun t ht hW => ⟨⟨(qn + 1, g_14, g_17), rfl, ⟨by omega, by omega, qOK_add hok eg_17 (by omega)⟩, by rw [ht]; exact hP9, va_K.moved hW.alike hK9, hD9⟩, hS.F ht⟩) hS.2.2 dX8_reach_72
      · skip
        have c_11n : 100 ≤ qn := nb_lt (by omega) (by omega) c_11
        have hP9 := hP.sub (ws' := [(h0, Sum.inr (7, [Value.ref wy1, Value.ref wy2, Value.int (nI qn), Value.ref wy3, Value.ref wy4, Value.int cr])), (wy1, Sum.inl (wc1, 100, Sum.inl s1)), (wy2, Sum.inl (wc2, 100, Sum.inl s2)), (rv, Sum.inr (5, [Value.int (nI w), Value.int (nI h), Value.ref q1, Value.ref q2, Value.ref q3, Value.ref q4, Value.ref q5, Value.ref q6])), (q1, Sum.inl (cy1, 100, Sum.inl f1)), (q5, Sum.inl (cy5, 100, Sum.inl f5))]) [0, 1, 2, 5, 3, 4] rfl
        have hD9 := hD.sub (ws' := [(h0, Sum.inr (7, [Value.ref wy1, Value.ref wy2, Value.int (nI qn), Value.ref wy3, Value.ref wy4, Value.int cr])), (wy1, Sum.inl (wc1, 100, Sum.inl s1)), (wy2, Sum.inl (wc2, 100, Sum.inl s2)), (rv, Sum.inr (5, [Value.int (nI w), Value.int (nI h), Value.ref q1, Value.ref q2, Value.ref q3, Value.ref q4, Value.ref q5, Value.ref q6])), (q1, Sum.inl (cy1, 100, Sum.inl f1)), (q5, Sum.inl (cy5, 100, Sum.inl f5))]) [0, 1, 2, 5, 3, 4] (by decide) rfl
        have hK9 := hK.sub (tys' := []) [] rfl
        refine W.widen (k := 0) (n := 0) (by decide) (by decide) ?_
        exact W.vret hx hb hr (fun t ht hW => ⟨⟨(qn, s1, s2), rfl, ⟨hq, Nat.le_refl _, hok⟩, by rw [ht]; exact hP9, va_K.moved hW.alike hK9, hD9⟩, hS.F ht⟩) hS.2.2 dX8_reach_33
theorem dX8_spreadFrom_2 : decode cX8_spreadFrom 2 = .ok (.iload_n 3, 1) := by decide +kernel
theorem dX8_spreadFrom_3 : decode cX8_spreadFrom 3 = .ok (.bipush 100, 2) := by decide +kernel
theorem dX8_spreadFrom_5 : decode cX8_spreadFrom 5 = .ok (.if_icmp .ge 16, 3) := by decide +kernel
theorem dX8_spreadFrom_8 : decode cX8_spreadFrom 8 = .ok (.aload_n 0, 1) := by decide +kernel
theorem dX8_spreadFrom_9 : decode cX8_spreadFrom 9 = .ok (.getfield 9, 3) := by decide +kernel
theorem dX8_spreadFrom_12 : decode cX8_spreadFrom 12 = .ok (.iload_n 3, 1) := by decide +kernel
theorem dX8_spreadFrom_13 : decode cX8_spreadFrom 13 = .ok (.iconst (-1), 1) := by decide +kernel
theorem dX8_spreadFrom_14 : decode cX8_spreadFrom 14 = .ok (.iastore, 1) := by decide +kernel
theorem dX8_spreadFrom_15 : decode cX8_spreadFrom 15 = .ok (.iinc 3 1, 3) := by decide +kernel
theorem dX8_spreadFrom_18 : decode cX8_spreadFrom 18 = .ok (.goto (-16), 3) := by decide +kernel
set_option maxHeartbeats 4000000 in
set_option maxRecDepth 100000 in
theorem lp_spread1 {p : Program} {l : Launch} {e : Env} {s : State} {m : MethodId} {args : Array Value} {below : List Frame} {meth : Method} {c : Code} {Q : State → Prop} {A : Nat → Prop} {D : va_G} (F : mFix p s m args c cX8_spreadFrom 7 RX8) (hA : ∀ q, s.heap.size ≤ q → A q) (h0 : Nat) (fa : Nat) (cu : Nat) (rv : Nat) (bt : Nat) (wy1 : Nat) (wy2 : Nat) (wy3 : Nat) (wy4 : Nat) (wc1 : ClassId) (wc2 : ClassId) (cr : Int32) (bc : Nat) (ho : Int32) (fe : Int32) (cu1 : Nat) (cu2 : Nat) (cu3 : Nat) (cu4 : Nat) (cc2 : ClassId) (cc3 : ClassId) (cf2 : Nat → Int32) (cf3 : Nat → Int32) (sc : Int32) (to : Int32) (q1 : Nat) (q2 : Nat) (q3 : Nat) (q4 : Nat) (q5 : Nat) (q6 : Nat) (cy1 : ClassId) (cy5 : ClassId) (f1 : Nat → Int32) (f5 : Nat → Int32) (w : Nat) (h : Nat) (s2 : Nat → Int32) (qd : Int32) (t : Nat) (hK : va_K D vwCl [(wc1, .int), (wc2, .int), (cc2, .int), (cc3, .int), (cy1, .int), (cy5, .boolean)] s)
    (kx_21 : ∀ (t1 : Nat → Int32), ∀ (H : Heap) (locs : List Loc), va_P D vwCl [(h0, Sum.inr (7, [Value.ref wy1, Value.ref wy2, Value.int qd, Value.ref wy3, Value.ref wy4, Value.int cr])), (wy1, Sum.inl (wc1, 100, Sum.inl t1)), (wy2, Sum.inl (wc2, 100, Sum.inl s2)), (fa, Sum.inr (3, [Value.ref cu, Value.ref rv, Value.ref bt, Value.int (nI bc), Value.int ho, Value.int fe])), (cu, Sum.inr (1, [Value.ref cu1, Value.ref cu2, Value.ref cu3, Value.ref cu4, Value.int sc, Value.int to])), (cu2, Sum.inl (cc2, 4, Sum.inl cf2)), (cu3, Sum.inl (cc3, 4, Sum.inl cf3)), (rv, Sum.inr (5, [Value.int (nI w), Value.int (nI h), Value.ref q1, Value.ref q2, Value.ref q3, Value.ref q4, Value.ref q5, Value.ref q6])), (q1, Sum.inl (cy1, 100, Sum.inl f1)), (q5, Sum.inl (cy5, 100, Sum.inl f5))] H → va_D A [(h0, Sum.inr (7, [Value.ref wy1, Value.ref wy2, Value.int qd, Value.ref wy3, Value.ref wy4, Value.int cr])), (wy1, Sum.inl (wc1, 100, Sum.inl t1)), (wy2, Sum.inl (wc2, 100, Sum.inl s2)), (fa, Sum.inr (3, [Value.ref cu, Value.ref rv, Value.ref bt, Value.int (nI bc), Value.int ho, Value.int fe])), (cu, Sum.inr (1, [Value.ref cu1, Value.ref cu2, Value.ref cu3, Value.ref cu4, Value.int sc, Value.int to])), (cu2, Sum.inl (cc2, 4, Sum.inl cf2)), (cu3, Sum.inl (cc3, 4, Sum.inl cf3)), (rv, Sum.inr (5, [Value.int (nI w), Value.int (nI h), Value.ref q1, Value.ref q2, Value.ref q3, Value.ref q4, Value.ref q5, Value.ref q6])), (q1, Sum.inl (cy1, 100, Sum.inl f1)), (q5, Sum.inl (cy5, 100, Sum.inl f5))] → va_S A s.heap H locs → ∀ ls : Array Slot, lv_has ls 7 [(0, Value.ref h0), (1, Value.ref fa), (2, Value.int (nI t))] → W p l e ({ frames := 3, cells := 0, slots := 0, locals := 69 }) s m args below meth c H locs 0 0 Q (F0 m 21 ls [])) :
    ∀ n : Nat, ∀ (t1 : Nat → Int32) (i : Nat), (i ≤ 100) → (100 - i) < n → ∀ (H : Heap) (locs : List Loc), va_P D vwCl [(h0, Sum.inr (7, [Value.ref wy1, Value.ref wy2, Value.int qd, Value.ref wy3, Value.ref wy4, Value.int cr])), (wy1, Sum.inl (wc1, 100, Sum.inl t1)), (wy2, Sum.inl (wc2, 100, Sum.inl s2)), (fa, Sum.inr (3, [Value.ref cu, Value.ref rv, Value.ref bt, Value.int (nI bc), Value.int ho, Value.int fe])), (cu, Sum.inr (1, [Value.ref cu1, Value.ref cu2, Value.ref cu3, Value.ref cu4, Value.int sc, Value.int to])), (cu2, Sum.inl (cc2, 4, Sum.inl cf2)), (cu3, Sum.inl (cc3, 4, Sum.inl cf3)), (rv, Sum.inr (5, [Value.int (nI w), Value.int (nI h), Value.ref q1, Value.ref q2, Value.ref q3, Value.ref q4, Value.ref q5, Value.ref q6])), (q1, Sum.inl (cy1, 100, Sum.inl f1)), (q5, Sum.inl (cy5, 100, Sum.inl f5))] H → va_D A [(h0, Sum.inr (7, [Value.ref wy1, Value.ref wy2, Value.int qd, Value.ref wy3, Value.ref wy4, Value.int cr])), (wy1, Sum.inl (wc1, 100, Sum.inl t1)), (wy2, Sum.inl (wc2, 100, Sum.inl s2)), (fa, Sum.inr (3, [Value.ref cu, Value.ref rv, Value.ref bt, Value.int (nI bc), Value.int ho, Value.int fe])), (cu, Sum.inr (1, [Value.ref cu1, Value.ref cu2, Value.ref cu3, Value.ref cu4, Value.int sc, Value.int to])), (cu2, Sum.inl (cc2, 4, Sum.inl cf2)), (cu3, Sum.inl (cc3, 4, Sum.inl cf3)), (rv, Sum.inr (5, [Value.int (nI w), Value.int (nI h), Value.ref q1, Value.ref q2, Value.ref q3, Value.ref q4, Value.ref q5, Value.ref q6])), (q1, Sum.inl (cy1, 100, Sum.inl f1)), (q5, Sum.inl (cy5, 100, Sum.inl f5))] → va_S A s.heap H locs → ∀ ls : Array Slot, lv_has ls 7 [(0, Value.ref h0), (1, Value.ref fa), (2, Value.int (nI t)), (3, Value.int (nI i))] → W p l e ({ frames := 3, cells := 0, slots := 0, locals := 69 }) s m args below meth c H locs 0 0 Q (F0 m 2 ls []) := by
  intro n
  induction n with
  | zero => intro t1 i hi hn; exact absurd hn (Nat.not_lt_zero _)
  | succ n ih =>
    intro t1 i hi hn H locs hP hD hS ls hl
    obtain ⟨hx, hb, hml, hown, hts⟩ := id F
    refine lv_iload_n hx hb dX8_spreadFrom_2 rfl (lv_at hl 3 rfl) ?_
    refine lv_bipush (v := 100) hx hb dX8_spreadFrom_3 (by decide) ?_
    refine lv_icmp_ge (tgt := 21) hx hb dX8_spreadFrom_5 (by decide) (fun c_1 => ?_) (fun c_1 => ?_)
    · skip
      have c_1n : 100 ≤ i := (nI_leI (by omega) (by omega)).mp c_1
      have c_1 := Int32.not_lt.mpr c_1
      exact kx_21 t1  H locs (hP.sub [0, 1, 2, 3, 4, 5, 6, 7, 8, 9] rfl) (hD.sub [0, 1, 2, 3, 4, 5, 6, 7, 8, 9] (by decide) rfl) hS ls (lv_sub hl [0, 1, 2] rfl)
    · skip
      have c_1n : i < 100 := nb_le (by omega) (by omega) c_1
      have c_1 := Int32.not_le.mp c_1
      refine lv_aload_n hx hb dX8_spreadFrom_8 rfl (lv_at hl 0 rfl) ?_
      refine va_get (D := D) (ci := 7) (v := Value.ref wy1) (C := RX8) (T := TX8) (N := 6) hx hb hts inG_X8 hown hK hP 0 rfl rfl 0 (by decide) (hts _ kw_2_48) (fun _ h9 => h9) rfl dX8_spreadFrom_9 ?_
      refine lv_iload_n hx hb dX8_spreadFrom_12 rfl (lv_at hl 3 rfl) ?_
      refine lv_iconst (v := -1) hx hb dX8_spreadFrom_13 (by decide) ?_
      refine m_iast hx hb hK hP hD hS 1 0 rfl rfl i rfl (by omega) (by decide) dX8_spreadFrom_14 (fun g_2 H locs eg_2 hP hD hS => ?_)
      have hP : va_P D vwCl [(h0, Sum.inr (7, [Value.ref wy1, Value.ref wy2, Value.int qd, Value.ref wy3, Value.ref wy4, Value.int cr])), (wy1, Sum.inl (wc1, 100, Sum.inl g_2)), (wy2, Sum.inl (wc2, 100, Sum.inl s2)), (fa, Sum.inr (3, [Value.ref cu, Value.ref rv, Value.ref bt, Value.int (nI bc), Value.int ho, Value.int fe])), (cu, Sum.inr (1, [Value.ref cu1, Value.ref cu2, Value.ref cu3, Value.ref cu4, Value.int sc, Value.int to])), (cu2, Sum.inl (cc2, 4, Sum.inl cf2)), (cu3, Sum.inl (cc3, 4, Sum.inl cf3)), (rv, Sum.inr (5, [Value.int (nI w), Value.int (nI h), Value.ref q1, Value.ref q2, Value.ref q3, Value.ref q4, Value.ref q5, Value.ref q6])), (q1, Sum.inl (cy1, 100, Sum.inl f1)), (q5, Sum.inl (cy5, 100, Sum.inl f5))] H := hP
      have hD : va_D A [(h0, Sum.inr (7, [Value.ref wy1, Value.ref wy2, Value.int qd, Value.ref wy3, Value.ref wy4, Value.int cr])), (wy1, Sum.inl (wc1, 100, Sum.inl g_2)), (wy2, Sum.inl (wc2, 100, Sum.inl s2)), (fa, Sum.inr (3, [Value.ref cu, Value.ref rv, Value.ref bt, Value.int (nI bc), Value.int ho, Value.int fe])), (cu, Sum.inr (1, [Value.ref cu1, Value.ref cu2, Value.ref cu3, Value.ref cu4, Value.int sc, Value.int to])), (cu2, Sum.inl (cc2, 4, Sum.inl cf2)), (cu3, Sum.inl (cc3, 4, Sum.inl cf3)), (rv, Sum.inr (5, [Value.int (nI w), Value.int (nI h), Value.ref q1, Value.ref q2, Value.ref q3, Value.ref q4, Value.ref q5, Value.ref q6])), (q1, Sum.inl (cy1, 100, Sum.inl f1)), (q5, Sum.inl (cy5, 100, Sum.inl f5))] := hD
      refine lv_iinc (v := nI (i + 1)) (lv' := [(3, Value.int (nI (i + 1))), (0, Value.ref h0), (1, Value.ref fa), (2, Value.int (nI t))]) hx hb dX8_spreadFrom_15 hl (k := 3) rfl (nI_add i 1) (by decide) rfl (fun ls hl => ?_)
      refine lv_goto (tgt := 2) hx hb dX8_spreadFrom_18 (by decide) ?_
      exact ih g_2 (i + 1) (by omega) (by omega) H locs (hP.sub [0, 1, 2, 3, 4, 5, 6, 7, 8, 9] rfl) (hD.sub [0, 1, 2, 3, 4, 5, 6, 7, 8, 9] (by decide) rfl) hS ls (lv_sub hl [1, 2, 3, 0] rfl)
theorem dX8_spreadFrom_55 : decode cX8_spreadFrom 55 = .ok (.iload_n 3, 1) := by decide +kernel
theorem dX8_spreadFrom_56 : decode cX8_spreadFrom 56 = .ok (.aload_n 0, 1) := by decide +kernel
theorem dX8_spreadFrom_57 : decode cX8_spreadFrom 57 = .ok (.getfield 102, 3) := by decide +kernel
theorem dX8_spreadFrom_60 : decode cX8_spreadFrom 60 = .ok (.if_icmp .ge 116, 3) := by decide +kernel
theorem dX8_spreadFrom_63 : decode cX8_spreadFrom 63 = .ok (.iload_n 3, 1) := by decide +kernel
theorem dX8_spreadFrom_64 : decode cX8_spreadFrom 64 = .ok (.bipush 100, 2) := by decide +kernel
theorem dX8_spreadFrom_66 : decode cX8_spreadFrom 66 = .ok (.if_icmp .ge 110, 3) := by decide +kernel
theorem dX8_spreadFrom_69 : decode cX8_spreadFrom 69 = .ok (.aload_n 0, 1) := by decide +kernel
theorem dX8_spreadFrom_70 : decode cX8_spreadFrom 70 = .ok (.getfield 15, 3) := by decide +kernel
theorem dX8_spreadFrom_73 : decode cX8_spreadFrom 73 = .ok (.iload_n 3, 1) := by decide +kernel
theorem dX8_spreadFrom_74 : decode cX8_spreadFrom 74 = .ok (.iaload, 1) := by decide +kernel
theorem dX8_spreadFrom_75 : decode cX8_spreadFrom 75 = .ok (.bipush 10, 2) := by decide +kernel
theorem dX8_spreadFrom_77 : decode cX8_spreadFrom 77 = .ok (.irem, 1) := by decide +kernel
theorem dX8_spreadFrom_78 : decode cX8_spreadFrom 78 = .ok (.istore 4, 2) := by decide +kernel
theorem dX8_spreadFrom_80 : decode cX8_spreadFrom 80 = .ok (.aload_n 0, 1) := by decide +kernel
theorem dX8_spreadFrom_81 : decode cX8_spreadFrom 81 = .ok (.getfield 15, 3) := by decide +kernel
theorem dX8_spreadFrom_84 : decode cX8_spreadFrom 84 = .ok (.iload_n 3, 1) := by decide +kernel
theorem dX8_spreadFrom_85 : decode cX8_spreadFrom 85 = .ok (.iaload, 1) := by decide +kernel
theorem dX8_spreadFrom_86 : decode cX8_spreadFrom 86 = .ok (.bipush 10, 2) := by decide +kernel
theorem dX8_spreadFrom_88 : decode cX8_spreadFrom 88 = .ok (.idiv, 1) := by decide +kernel
theorem dX8_spreadFrom_89 : decode cX8_spreadFrom 89 = .ok (.istore 5, 2) := by decide +kernel
theorem dX8_spreadFrom_91 : decode cX8_spreadFrom 91 = .ok (.aload_n 0, 1) := by decide +kernel
theorem dX8_spreadFrom_92 : decode cX8_spreadFrom 92 = .ok (.getfield 9, 3) := by decide +kernel
theorem dX8_spreadFrom_95 : decode cX8_spreadFrom 95 = .ok (.aload_n 0, 1) := by decide +kernel
theorem dX8_spreadFrom_96 : decode cX8_spreadFrom 96 = .ok (.getfield 15, 3) := by decide +kernel
theorem dX8_spreadFrom_99 : decode cX8_spreadFrom 99 = .ok (.iload_n 3, 1) := by decide +kernel
theorem dX8_spreadFrom_100 : decode cX8_spreadFrom 100 = .ok (.iaload, 1) := by decide +kernel
theorem dX8_spreadFrom_101 : decode cX8_spreadFrom 101 = .ok (.iaload, 1) := by decide +kernel
theorem dX8_spreadFrom_102 : decode cX8_spreadFrom 102 = .ok (.iconst 1, 1) := by decide +kernel
theorem dX8_spreadFrom_103 : decode cX8_spreadFrom 103 = .ok (.iadd, 1) := by decide +kernel
theorem dX8_spreadFrom_104 : decode cX8_spreadFrom 104 = .ok (.istore 6, 2) := by decide +kernel
theorem dX8_spreadFrom_106 : decode cX8_spreadFrom 106 = .ok (.aload_n 0, 1) := by decide +kernel
theorem dX8_spreadFrom_107 : decode cX8_spreadFrom 107 = .ok (.aload_n 1, 1) := by decide +kernel
theorem kw_1_221 : Cond.fieldLink RX8 45 "IceFair$Fair" "river" "LIceFair$River;" ∈ gw := gw_t1 (List.mem_of_getElem? (i := 221) (by decide +kernel)) (by decide +kernel)
theorem dX8_spreadFrom_108 : decode cX8_spreadFrom 108 = .ok (.getfield 45, 3) := by decide +kernel
theorem dX8_spreadFrom_111 : decode cX8_spreadFrom 111 = .ok (.iload 4, 2) := by decide +kernel
theorem dX8_spreadFrom_113 : decode cX8_spreadFrom 113 = .ok (.iconst 1, 1) := by decide +kernel
theorem dX8_spreadFrom_114 : decode cX8_spreadFrom 114 = .ok (.isub, 1) := by decide +kernel
theorem dX8_spreadFrom_115 : decode cX8_spreadFrom 115 = .ok (.iload 5, 2) := by decide +kernel
theorem dX8_spreadFrom_117 : decode cX8_spreadFrom 117 = .ok (.iload 6, 2) := by decide +kernel
theorem kw_4_10 : Cond.methodLink RX8 111 yX8_reach ∈ gw := gw_t4 (List.mem_of_getElem? (i := 10) (by decide +kernel)) (by decide +kernel)
theorem kw_4_12 : Cond.instanceMethod yX8_reach ∈ gw := gw_t4 (List.mem_of_getElem? (i := 12) (by decide +kernel)) (by decide +kernel)
theorem ks_2_8 : Cond.selects RX8 yX8_reach yX8_reach ∈ gw := gw_s (y := yX8_reach) (n := 6) (List.mem_append_right _ (List.mem_append_left _ (List.mem_of_getElem? (i := 8) (by decide +kernel))))
theorem kw_4_13 : Cond.code yX8_reach cX8_reach 5 none ∈ gw := gw_t4 (List.mem_of_getElem? (i := 13) (by decide +kernel)) (by decide +kernel)
theorem gk_X8_111 : GoodIn gw (wsV RX8 111 RX8 yX8_reach (.code yX8_reach cX8_reach 5 none :: gw)) ∧ (yX8_reach.cls = RX8 ∧ yX8_reach.cls ≠ "java/lang/invoke/MethodHandle" ∧ yX8_reach.cls ≠ "java/lang/invoke/VarHandle" ∧ (parseMethodDescriptor yX8_reach.desc).map (fun d => d.parameters.length) = some 4) := ⟨gi_V kw_4_10 kw_4_12 ks_2_8 kw_1_10 kw_4_13, by decide +kernel⟩
theorem dX8_spreadFrom_119 : decode cX8_spreadFrom 119 = .ok (.invokevirtual 111, 3) := by decide +kernel
theorem dX8_spreadFrom_122 : decode cX8_spreadFrom 122 = .ok (.aload_n 0, 1) := by decide +kernel
theorem dX8_spreadFrom_123 : decode cX8_spreadFrom 123 = .ok (.aload_n 1, 1) := by decide +kernel
theorem dX8_spreadFrom_124 : decode cX8_spreadFrom 124 = .ok (.getfield 45, 3) := by decide +kernel
theorem dX8_spreadFrom_127 : decode cX8_spreadFrom 127 = .ok (.iload 4, 2) := by decide +kernel
theorem dX8_spreadFrom_129 : decode cX8_spreadFrom 129 = .ok (.iconst 1, 1) := by decide +kernel
theorem dX8_spreadFrom_130 : decode cX8_spreadFrom 130 = .ok (.iadd, 1) := by decide +kernel
theorem dX8_spreadFrom_131 : decode cX8_spreadFrom 131 = .ok (.iload 5, 2) := by decide +kernel
theorem dX8_spreadFrom_133 : decode cX8_spreadFrom 133 = .ok (.iload 6, 2) := by decide +kernel
theorem dX8_spreadFrom_135 : decode cX8_spreadFrom 135 = .ok (.invokevirtual 111, 3) := by decide +kernel
theorem dX8_spreadFrom_138 : decode cX8_spreadFrom 138 = .ok (.aload_n 0, 1) := by decide +kernel
theorem dX8_spreadFrom_139 : decode cX8_spreadFrom 139 = .ok (.aload_n 1, 1) := by decide +kernel
theorem dX8_spreadFrom_140 : decode cX8_spreadFrom 140 = .ok (.getfield 45, 3) := by decide +kernel
theorem dX8_spreadFrom_143 : decode cX8_spreadFrom 143 = .ok (.iload 4, 2) := by decide +kernel
theorem dX8_spreadFrom_145 : decode cX8_spreadFrom 145 = .ok (.iload 5, 2) := by decide +kernel
theorem dX8_spreadFrom_147 : decode cX8_spreadFrom 147 = .ok (.iconst 1, 1) := by decide +kernel
theorem dX8_spreadFrom_148 : decode cX8_spreadFrom 148 = .ok (.isub, 1) := by decide +kernel
theorem dX8_spreadFrom_149 : decode cX8_spreadFrom 149 = .ok (.iload 6, 2) := by decide +kernel
theorem dX8_spreadFrom_151 : decode cX8_spreadFrom 151 = .ok (.invokevirtual 111, 3) := by decide +kernel
theorem dX8_spreadFrom_154 : decode cX8_spreadFrom 154 = .ok (.aload_n 0, 1) := by decide +kernel
theorem dX8_spreadFrom_155 : decode cX8_spreadFrom 155 = .ok (.aload_n 1, 1) := by decide +kernel
theorem dX8_spreadFrom_156 : decode cX8_spreadFrom 156 = .ok (.getfield 45, 3) := by decide +kernel
theorem dX8_spreadFrom_159 : decode cX8_spreadFrom 159 = .ok (.iload 4, 2) := by decide +kernel
theorem dX8_spreadFrom_161 : decode cX8_spreadFrom 161 = .ok (.iload 5, 2) := by decide +kernel
theorem dX8_spreadFrom_163 : decode cX8_spreadFrom 163 = .ok (.iconst 1, 1) := by decide +kernel
theorem dX8_spreadFrom_164 : decode cX8_spreadFrom 164 = .ok (.iadd, 1) := by decide +kernel
theorem dX8_spreadFrom_165 : decode cX8_spreadFrom 165 = .ok (.iload 6, 2) := by decide +kernel
theorem dX8_spreadFrom_167 : decode cX8_spreadFrom 167 = .ok (.invokevirtual 111, 3) := by decide +kernel
theorem dX8_spreadFrom_170 : decode cX8_spreadFrom 170 = .ok (.iinc 3 1, 3) := by decide +kernel
theorem dX8_spreadFrom_173 : decode cX8_spreadFrom 173 = .ok (.goto (-118), 3) := by decide +kernel
set_option maxHeartbeats 4000000 in
set_option maxRecDepth 100000 in
theorem lp_spread2 {p : Program} {l : Launch} {e : Env} {s : State} {m : MethodId} {args : Array Value} {below : List Frame} {meth : Method} {c : Code} {Q : State → Prop} {A : Nat → Prop} {D : va_G} (F : mFix p s m args c cX8_spreadFrom 7 RX8) (hA : ∀ q, s.heap.size ≤ q → A q) (h0 : Nat) (fa : Nat) (cu : Nat) (rv : Nat) (bt : Nat) (wy1 : Nat) (wy2 : Nat) (wy3 : Nat) (wy4 : Nat) (wc1 : ClassId) (wc2 : ClassId) (cr : Int32) (bc : Nat) (ho : Int32) (fe : Int32) (cu1 : Nat) (cu2 : Nat) (cu3 : Nat) (cu4 : Nat) (cc2 : ClassId) (cc3 : ClassId) (cf2 : Nat → Int32) (cf3 : Nat → Int32) (sc : Int32) (to : Int32) (q1 : Nat) (q2 : Nat) (q3 : Nat) (q4 : Nat) (q5 : Nat) (q6 : Nat) (cy1 : ClassId) (cy5 : ClassId) (f1 : Nat → Int32) (f5 : Nat → Int32) (w : Nat) (h : Nat) (hK : va_K D vwCl [(wc1, .int), (wc2, .int), (cc2, .int), (cc3, .int), (cy1, .int), (cy5, .boolean)] s)
    (kx_176 : ∀ (q9 : Nat) (t1 : Nat → Int32) (t2 : Nat → Int32), ∀ (H : Heap) (locs : List Loc), va_P D vwCl [(h0, Sum.inr (7, [Value.ref wy1, Value.ref wy2, Value.int (nI q9), Value.ref wy3, Value.ref wy4, Value.int cr])), (wy1, Sum.inl (wc1, 100, Sum.inl t1)), (wy2, Sum.inl (wc2, 100, Sum.inl t2)), (fa, Sum.inr (3, [Value.ref cu, Value.ref rv, Value.ref bt, Value.int (nI bc), Value.int ho, Value.int fe])), (cu, Sum.inr (1, [Value.ref cu1, Value.ref cu2, Value.ref cu3, Value.ref cu4, Value.int sc, Value.int to])), (cu2, Sum.inl (cc2, 4, Sum.inl cf2)), (cu3, Sum.inl (cc3, 4, Sum.inl cf3)), (rv, Sum.inr (5, [Value.int (nI w), Value.int (nI h), Value.ref q1, Value.ref q2, Value.ref q3, Value.ref q4, Value.ref q5, Value.ref q6])), (q1, Sum.inl (cy1, 100, Sum.inl f1)), (q5, Sum.inl (cy5, 100, Sum.inl f5))] H → va_D A [(h0, Sum.inr (7, [Value.ref wy1, Value.ref wy2, Value.int (nI q9), Value.ref wy3, Value.ref wy4, Value.int cr])), (wy1, Sum.inl (wc1, 100, Sum.inl t1)), (wy2, Sum.inl (wc2, 100, Sum.inl t2)), (fa, Sum.inr (3, [Value.ref cu, Value.ref rv, Value.ref bt, Value.int (nI bc), Value.int ho, Value.int fe])), (cu, Sum.inr (1, [Value.ref cu1, Value.ref cu2, Value.ref cu3, Value.ref cu4, Value.int sc, Value.int to])), (cu2, Sum.inl (cc2, 4, Sum.inl cf2)), (cu3, Sum.inl (cc3, 4, Sum.inl cf3)), (rv, Sum.inr (5, [Value.int (nI w), Value.int (nI h), Value.ref q1, Value.ref q2, Value.ref q3, Value.ref q4, Value.ref q5, Value.ref q6])), (q1, Sum.inl (cy1, 100, Sum.inl f1)), (q5, Sum.inl (cy5, 100, Sum.inl f5))] → va_S A s.heap H locs → ∀ ls : Array Slot, lv_has ls 7 [] → W p l e ({ frames := 3, cells := 0, slots := 0, locals := 69 }) s m args below meth c H locs 0 0 Q (F0 m 176 ls [])) :
    ∀ n : Nat, ∀ (q9 : Nat) (t1 : Nat → Int32) (t2 : Nat → Int32) (i : Nat), (i ≤ 100) → (w ≤ 10) → (h ≤ 10) → (q9 ≤ 100) → (qOK t2 q9) → (100 - i) < n → ∀ (H : Heap) (locs : List Loc), va_P D vwCl [(h0, Sum.inr (7, [Value.ref wy1, Value.ref wy2, Value.int (nI q9), Value.ref wy3, Value.ref wy4, Value.int cr])), (wy1, Sum.inl (wc1, 100, Sum.inl t1)), (wy2, Sum.inl (wc2, 100, Sum.inl t2)), (fa, Sum.inr (3, [Value.ref cu, Value.ref rv, Value.ref bt, Value.int (nI bc), Value.int ho, Value.int fe])), (cu, Sum.inr (1, [Value.ref cu1, Value.ref cu2, Value.ref cu3, Value.ref cu4, Value.int sc, Value.int to])), (cu2, Sum.inl (cc2, 4, Sum.inl cf2)), (cu3, Sum.inl (cc3, 4, Sum.inl cf3)), (rv, Sum.inr (5, [Value.int (nI w), Value.int (nI h), Value.ref q1, Value.ref q2, Value.ref q3, Value.ref q4, Value.ref q5, Value.ref q6])), (q1, Sum.inl (cy1, 100, Sum.inl f1)), (q5, Sum.inl (cy5, 100, Sum.inl f5))] H → va_D A [(h0, Sum.inr (7, [Value.ref wy1, Value.ref wy2, Value.int (nI q9), Value.ref wy3, Value.ref wy4, Value.int cr])), (wy1, Sum.inl (wc1, 100, Sum.inl t1)), (wy2, Sum.inl (wc2, 100, Sum.inl t2)), (fa, Sum.inr (3, [Value.ref cu, Value.ref rv, Value.ref bt, Value.int (nI bc), Value.int ho, Value.int fe])), (cu, Sum.inr (1, [Value.ref cu1, Value.ref cu2, Value.ref cu3, Value.ref cu4, Value.int sc, Value.int to])), (cu2, Sum.inl (cc2, 4, Sum.inl cf2)), (cu3, Sum.inl (cc3, 4, Sum.inl cf3)), (rv, Sum.inr (5, [Value.int (nI w), Value.int (nI h), Value.ref q1, Value.ref q2, Value.ref q3, Value.ref q4, Value.ref q5, Value.ref q6])), (q1, Sum.inl (cy1, 100, Sum.inl f1)), (q5, Sum.inl (cy5, 100, Sum.inl f5))] → va_S A s.heap H locs → ∀ ls : Array Slot, lv_has ls 7 [(0, Value.ref h0), (1, Value.ref fa), (3, Value.int (nI i))] → W p l e ({ frames := 3, cells := 0, slots := 0, locals := 69 }) s m args below meth c H locs 0 0 Q (F0 m 55 ls []) := by
  intro n
  induction n with
  | zero => intro q9 t1 t2 i hi h3 h4 hq hok hn; exact absurd hn (Nat.not_lt_zero _)
  | succ n ih =>
    intro q9 t1 t2 i hi h3 h4 hq hok hn H locs hP hD hS ls hl
    obtain ⟨hx, hb, hml, hown, hts⟩ := id F
    refine lv_iload_n hx hb dX8_spreadFrom_55 rfl (lv_at hl 2 rfl) ?_
    refine lv_aload_n hx hb dX8_spreadFrom_56 rfl (lv_at hl 0 rfl) ?_
    refine va_get (D := D) (ci := 7) (v := Value.int (nI q9)) (C := RX8) (T := TX8) (N := 6) hx hb hts inG_X8 hown hK hP 0 rfl rfl 2 (by decide) (hts _ kw_2_50) (fun _ h9 => h9) rfl dX8_spreadFrom_57 ?_
    refine lv_icmp_ge (tgt := 176) hx hb dX8_spreadFrom_60 (by decide) (fun c_1 => ?_) (fun c_1 => ?_)
    · skip
      have c_1n : q9 ≤ i := (nI_leI (by omega) (by omega)).mp c_1
      have c_1 := Int32.not_lt.mpr c_1
      exact kx_176 q9 t1 t2  H locs (hP.sub [0, 1, 2, 3, 4, 5, 6, 7, 8, 9] rfl) (hD.sub [0, 1, 2, 3, 4, 5, 6, 7, 8, 9] (by decide) rfl) hS ls (lv_sub hl [] rfl)
    · skip
      have c_1n : i < q9 := nb_le (by omega) (by omega) c_1
      have c_1 := Int32.not_le.mp c_1
      refine lv_iload_n hx hb dX8_spreadFrom_63 rfl (lv_at hl 2 rfl) ?_
      refine lv_bipush (v := 100) hx hb dX8_spreadFrom_64 (by decide) ?_
      refine lv_icmp_ge (tgt := 176) hx hb dX8_spreadFrom_66 (by decide) (fun c_2 => ?_) (fun c_2 => ?_)
      · skip
        have c_2n : 100 ≤ i := (nI_leI (by omega) (by omega)).mp c_2
        have c_2 := Int32.not_lt.mpr c_2
        exact kx_176 q9 t1 t2  H locs (hP.sub [0, 1, 2, 3, 4, 5, 6, 7, 8, 9] rfl) (hD.sub [0, 1, 2, 3, 4, 5, 6, 7, 8, 9] (by decide) rfl) hS ls (lv_sub hl [] rfl)
      · skip
        have c_2n : i < 100 := nb_le (by omega) (by omega) c_2
        have c_2 := Int32.not_le.mp c_2
        refine lv_aload_n hx hb dX8_spreadFrom_69 rfl (lv_at hl 0 rfl) ?_
        refine va_get (D := D) (ci := 7) (v := Value.ref wy2) (C := RX8) (T := TX8) (N := 6) hx hb hts inG_X8 hown hK hP 0 rfl rfl 1 (by decide) (hts _ kw_2_49) (fun _ h9 => h9) rfl dX8_spreadFrom_70 ?_
        refine lv_iload_n hx hb dX8_spreadFrom_73 rfl (lv_at hl 2 rfl) ?_
        refine m_iald hx hb hK hP 2 1 rfl rfl i rfl (by omega) (by decide) dX8_spreadFrom_74 ?_
        refine lv_topi (fun v_3 ev_3 => ?_)
        obtain ⟨qv_4, hqv_4, eqv_4⟩ := hok i (by omega)
        obtain rfl : v_3 = nI qv_4 := ev_3.trans eqv_4
        refine lv_bipush (v := 10) hx hb dX8_spreadFrom_75 (by decide) ?_
        refine lv_irem hx hb dX8_spreadFrom_77 (by decide) ?_
        refine lv_topi (fun z_5 ez_5 => ?_)
        obtain rfl : z_5 = nI (qv_4 % 10) := ez_5.trans (pk_rem (a := qv_4) (d := 10) (by omega) (by decide) (by decide))
        refine lv_istore (lv' := [(4, Value.int (nI (qv_4 % 10))), (0, Value.ref h0), (1, Value.ref fa), (3, Value.int (nI i))]) hx hb dX8_spreadFrom_78 hl (by decide) rfl (fun ls hl => ?_)
        refine lv_aload_n hx hb dX8_spreadFrom_80 rfl (lv_at hl 1 rfl) ?_
        refine va_get (D := D) (ci := 7) (v := Value.ref wy2) (C := RX8) (T := TX8) (N := 6) hx hb hts inG_X8 hown hK hP 0 rfl rfl 1 (by decide) (hts _ kw_2_49) (fun _ h9 => h9) rfl dX8_spreadFrom_81 ?_
        refine lv_iload_n hx hb dX8_spreadFrom_84 rfl (lv_at hl 3 rfl) ?_
        refine m_iald hx hb hK hP 2 1 rfl rfl i rfl (by omega) (by decide) dX8_spreadFrom_85 ?_
        refine lv_topi (fun v_6 ev_6 => ?_)
        obtain rfl : v_6 = nI qv_4 := ev_6.trans ev_3.symm
        refine lv_bipush (v := 10) hx hb dX8_spreadFrom_86 (by decide) ?_
        refine lv_idiv hx hb dX8_spreadFrom_88 (by decide) ?_
        refine lv_topi (fun z_7 ez_7 => ?_)
        obtain rfl : z_7 = nI (qv_4 / 10) := ez_7.trans (pk_div (a := qv_4) (d := 10) (by omega) (by decide) (by decide))
        refine lv_istore (lv' := [(5, Value.int (nI (qv_4 / 10))), (4, Value.int (nI (qv_4 % 10))), (0, Value.ref h0), (1, Value.ref fa), (3, Value.int (nI i))]) hx hb dX8_spreadFrom_89 hl (by decide) rfl (fun ls hl => ?_)
        refine lv_aload_n hx hb dX8_spreadFrom_91 rfl (lv_at hl 2 rfl) ?_
        refine va_get (D := D) (ci := 7) (v := Value.ref wy1) (C := RX8) (T := TX8) (N := 6) hx hb hts inG_X8 hown hK hP 0 rfl rfl 0 (by decide) (hts _ kw_2_48) (fun _ h9 => h9) rfl dX8_spreadFrom_92 ?_
        refine lv_aload_n hx hb dX8_spreadFrom_95 rfl (lv_at hl 2 rfl) ?_
        refine va_get (D := D) (ci := 7) (v := Value.ref wy2) (C := RX8) (T := TX8) (N := 6) hx hb hts inG_X8 hown hK hP 0 rfl rfl 1 (by decide) (hts _ kw_2_49) (fun _ h9 => h9) rfl dX8_spreadFrom_96 ?_
        refine lv_iload_n hx hb dX8_spreadFrom_99 rfl (lv_at hl 4 rfl) ?_
        refine m_iald hx hb hK hP 2 1 rfl rfl i rfl (by omega) (by decide) dX8_spreadFrom_100 ?_
        refine lv_topi (fun v_8 ev_8 => ?_)
        obtain rfl : v_8 = nI qv_4 := ev_8.trans ev_3.symm
        refine m_iald hx hb hK hP 1 0 rfl rfl qv_4 rfl (by omega) (by decide) dX8_spreadFrom_101 ?_
        refine lv_topi (fun v_9 ev_9 => ?_)
        refine lv_iconst (v := 1) hx hb dX8_spreadFrom_102 (by decide) ?_
        refine lv_iadd hx hb dX8_spreadFrom_103 ?_
        refine lv_topi (fun z_10 ez_10 => ?_)
        refine lv_istore (lv' := [(6, Value.int z_10), (5, Value.int (nI (qv_4 / 10))), (4, Value.int (nI (qv_4 % 10))), (0, Value.ref h0), (1, Value.ref fa), (3, Value.int (nI i))]) hx hb dX8_spreadFrom_104 hl (by decide) rfl (fun ls hl => ?_)
        refine lv_aload_n hx hb dX8_spreadFrom_106 rfl (lv_at hl 3 rfl) ?_
        refine lv_aload_n hx hb dX8_spreadFrom_107 rfl (lv_at hl 4 rfl) ?_
        refine va_get (D := D) (ci := 3) (v := Value.ref rv) (C := RX3) (T := TX3) (N := 6) hx hb hts inG_X3 hown hK hP 3 rfl rfl 1 (by decide) (hts _ kw_1_221) (fun _ h9 => h9) rfl dX8_spreadFrom_108 ?_
        refine lv_iload hx hb dX8_spreadFrom_111 (lv_at hl 2 rfl) ?_
        refine lv_iconst (v := 1) hx hb dX8_spreadFrom_113 (by decide) ?_
        refine lv_isub hx hb dX8_spreadFrom_114 ?_
        refine lv_topi (fun z_11 ez_11 => ?_)
        refine lv_iload hx hb dX8_spreadFrom_115 (lv_at hl 1 rfl) ?_
        refine lv_iload hx hb dX8_spreadFrom_117 (lv_at hl 0 rfl) ?_
        refine mc_Vv (rest := []) (wr := [(fa, Sum.inr (3, [Value.ref cu, Value.ref rv, Value.ref bt, Value.int (nI bc), Value.int ho, Value.int fe])), (cu, Sum.inr (1, [Value.ref cu1, Value.ref cu2, Value.ref cu3, Value.ref cu4, Value.int sc, Value.int to])), (cu2, Sum.inl (cc2, 4, Sum.inl cf2)), (cu3, Sum.inl (cc3, 4, Sum.inl cf3))]) F hK hP hD hS hA (c_reach l D h0 rv wy1 wy2 wy3 wy4 wc1 wc2 t1 t2 cr q9 q1 q2 q3 q4 q5 q6 cy1 cy5 f1 f5 w h z_11 (nI (qv_4 / 10)) z_10 (by omega) (by omega) (by omega) (by assumption)) ⟨gk_X8_111.1, gk_X8_111.2, Nat.le_of_ble_eq_true rfl, Nat.le_of_ble_eq_true rfl⟩ [0, 1, 2, 7, 8, 9] [3, 4, 5, 6] [0, 1, 4, 5] ⟨rfl, rfl, rfl, rfl, by decide⟩ rfl xT_move (fun _ _ _ => trivial) 0 rfl rfl rfl hl.1 rfl (Nat.le_of_ble_eq_true rfl) dX8_spreadFrom_119 ⟨Nat.le_of_ble_eq_true rfl, Nat.le_of_ble_eq_true rfl⟩ (fun u H locs hw hK1 hP hD hS => ?_)
        obtain ⟨q9_12, t1_13, t2_14⟩ := u
        have hP : va_P D vwCl [(fa, Sum.inr (3, [Value.ref cu, Value.ref rv, Value.ref bt, Value.int (nI bc), Value.int ho, Value.int fe])), (cu, Sum.inr (1, [Value.ref cu1, Value.ref cu2, Value.ref cu3, Value.ref cu4, Value.int sc, Value.int to])), (cu2, Sum.inl (cc2, 4, Sum.inl cf2)), (cu3, Sum.inl (cc3, 4, Sum.inl cf3)), (h0, Sum.inr (7, [Value.ref wy1, Value.ref wy2, Value.int (nI q9_12), Value.ref wy3, Value.ref wy4, Value.int cr])), (wy1, Sum.inl (wc1, 100, Sum.inl t1_13)), (wy2, Sum.inl (wc2, 100, Sum.inl t2_14)), (rv, Sum.inr (5, [Value.int (nI w), Value.int (nI h), Value.ref q1, Value.ref q2, Value.ref q3, Value.ref q4, Value.ref q5, Value.ref q6])), (q1, Sum.inl (cy1, 100, Sum.inl f1)), (q5, Sum.inl (cy5, 100, Sum.inl f5))] H := hP
        have hD : va_D A [(fa, Sum.inr (3, [Value.ref cu, Value.ref rv, Value.ref bt, Value.int (nI bc), Value.int ho, Value.int fe])), (cu, Sum.inr (1, [Value.ref cu1, Value.ref cu2, Value.ref cu3, Value.ref cu4, Value.int sc, Value.int to])), (cu2, Sum.inl (cc2, 4, Sum.inl cf2)), (cu3, Sum.inl (cc3, 4, Sum.inl cf3)), (h0, Sum.inr (7, [Value.ref wy1, Value.ref wy2, Value.int (nI q9_12), Value.ref wy3, Value.ref wy4, Value.int cr])), (wy1, Sum.inl (wc1, 100, Sum.inl t1_13)), (wy2, Sum.inl (wc2, 100, Sum.inl t2_14)), (rv, Sum.inr (5, [Value.int (nI w), Value.int (nI h), Value.ref q1, Value.ref q2, Value.ref q3, Value.ref q4, Value.ref q5, Value.ref q6])), (q1, Sum.inl (cy1, 100, Sum.inl f1)), (q5, Sum.inl (cy5, 100, Sum.inl f5))] := hD
        have hw_16 : q9_12 ≤ 100 ∧ q9 ≤ q9_12 ∧ qOK t2_14 q9_12 := hw
        obtain ⟨lok_17, mok_17, ok_17⟩ := hw_16
        refine lv_aload_n hx hb dX8_spreadFrom_122 rfl (lv_at hl 3 rfl) ?_
        refine lv_aload_n hx hb dX8_spreadFrom_123 rfl (lv_at hl 4 rfl) ?_
        refine va_get (D := D) (ci := 3) (v := Value.ref rv) (C := RX3) (T := TX3) (N := 6) hx hb hts inG_X3 hown hK hP 0 rfl rfl 1 (by decide) (hts _ kw_1_221) (fun _ h9 => h9) rfl dX8_spreadFrom_124 ?_
        refine lv_iload hx hb dX8_spreadFrom_127 (lv_at hl 2 rfl) ?_
        refine lv_iconst (v := 1) hx hb dX8_spreadFrom_129 (by decide) ?_
        refine lv_iadd hx hb dX8_spreadFrom_130 ?_
        refine lv_topi (fun z_18 ez_18 => ?_)
        obtain rfl : z_18 = nI (qv_4 % 10 + 1) := ez_18.trans (nI_add (qv_4 % 10) 1)
        refine lv_iload hx hb dX8_spreadFrom_131 (lv_at hl 1 rfl) ?_
        refine lv_iload hx hb dX8_spreadFrom_133 (lv_at hl 0 rfl) ?_
        refine mc_Vv (rest := []) (wr := [(fa, Sum.inr (3, [Value.ref cu, Value.ref rv, Value.ref bt, Value.int (nI bc), Value.int ho, Value.int fe])), (cu, Sum.inr (1, [Value.ref cu1, Value.ref cu2, Value.ref cu3, Value.ref cu4, Value.int sc, Value.int to])), (cu2, Sum.inl (cc2, 4, Sum.inl cf2)), (cu3, Sum.inl (cc3, 4, Sum.inl cf3))]) F hK hP hD hS hA (c_reach l D h0 rv wy1 wy2 wy3 wy4 wc1 wc2 t1_13 t2_14 cr q9_12 q1 q2 q3 q4 q5 q6 cy1 cy5 f1 f5 w h (nI (qv_4 % 10 + 1)) (nI (qv_4 / 10)) z_10 (by omega) (by omega) (by omega) (by assumption)) ⟨gk_X8_111.1, gk_X8_111.2, Nat.le_of_ble_eq_true rfl, Nat.le_of_ble_eq_true rfl⟩ [4, 5, 6, 7, 8, 9] [0, 1, 2, 3] [0, 1, 4, 5] ⟨rfl, rfl, rfl, rfl, by decide⟩ rfl xT_move (fun _ _ _ => trivial) 4 rfl rfl rfl hl.1 rfl (Nat.le_of_ble_eq_true rfl) dX8_spreadFrom_135 ⟨Nat.le_of_ble_eq_true rfl, Nat.le_of_ble_eq_true rfl⟩ (fun u H locs hw hK1 hP hD hS => ?_)
        obtain ⟨q9_19, t1_20, t2_21⟩ := u
        have hP : va_P D vwCl [(fa, Sum.inr (3, [Value.ref cu, Value.ref rv, Value.ref bt, Value.int (nI bc), Value.int ho, Value.int fe])), (cu, Sum.inr (1, [Value.ref cu1, Value.ref cu2, Value.ref cu3, Value.ref cu4, Value.int sc, Value.int to])), (cu2, Sum.inl (cc2, 4, Sum.inl cf2)), (cu3, Sum.inl (cc3, 4, Sum.inl cf3)), (h0, Sum.inr (7, [Value.ref wy1, Value.ref wy2, Value.int (nI q9_19), Value.ref wy3, Value.ref wy4, Value.int cr])), (wy1, Sum.inl (wc1, 100, Sum.inl t1_20)), (wy2, Sum.inl (wc2, 100, Sum.inl t2_21)), (rv, Sum.inr (5, [Value.int (nI w), Value.int (nI h), Value.ref q1, Value.ref q2, Value.ref q3, Value.ref q4, Value.ref q5, Value.ref q6])), (q1, Sum.inl (cy1, 100, Sum.inl f1)), (q5, Sum.inl (cy5, 100, Sum.inl f5))] H := hP
        have hD : va_D A [(fa, Sum.inr (3, [Value.ref cu, Value.ref rv, Value.ref bt, Value.int (nI bc), Value.int ho, Value.int fe])), (cu, Sum.inr (1, [Value.ref cu1, Value.ref cu2, Value.ref cu3, Value.ref cu4, Value.int sc, Value.int to])), (cu2, Sum.inl (cc2, 4, Sum.inl cf2)), (cu3, Sum.inl (cc3, 4, Sum.inl cf3)), (h0, Sum.inr (7, [Value.ref wy1, Value.ref wy2, Value.int (nI q9_19), Value.ref wy3, Value.ref wy4, Value.int cr])), (wy1, Sum.inl (wc1, 100, Sum.inl t1_20)), (wy2, Sum.inl (wc2, 100, Sum.inl t2_21)), (rv, Sum.inr (5, [Value.int (nI w), Value.int (nI h), Value.ref q1, Value.ref q2, Value.ref q3, Value.ref q4, Value.ref q5, Value.ref q6])), (q1, Sum.inl (cy1, 100, Sum.inl f1)), (q5, Sum.inl (cy5, 100, Sum.inl f5))] := hD
        have hw_23 : q9_19 ≤ 100 ∧ q9_12 ≤ q9_19 ∧ qOK t2_21 q9_19 := hw
        obtain ⟨lok_24, mok_24, ok_24⟩ := hw_23
        refine lv_aload_n hx hb dX8_spreadFrom_138 rfl (lv_at hl 3 rfl) ?_
        refine lv_aload_n hx hb dX8_spreadFrom_139 rfl (lv_at hl 4 rfl) ?_
        refine va_get (D := D) (ci := 3) (v := Value.ref rv) (C := RX3) (T := TX3) (N := 6) hx hb hts inG_X3 hown hK hP 0 rfl rfl 1 (by decide) (hts _ kw_1_221) (fun _ h9 => h9) rfl dX8_spreadFrom_140 ?_
        refine lv_iload hx hb dX8_spreadFrom_143 (lv_at hl 2 rfl) ?_
        refine lv_iload hx hb dX8_spreadFrom_145 (lv_at hl 1 rfl) ?_
        refine lv_iconst (v := 1) hx hb dX8_spreadFrom_147 (by decide) ?_
        refine lv_isub hx hb dX8_spreadFrom_148 ?_
        refine lv_topi (fun z_25 ez_25 => ?_)
        refine lv_iload hx hb dX8_spreadFrom_149 (lv_at hl 0 rfl) ?_
        refine mc_Vv (rest := []) (wr := [(fa, Sum.inr (3, [Value.ref cu, Value.ref rv, Value.ref bt, Value.int (nI bc), Value.int ho, Value.int fe])), (cu, Sum.inr (1, [Value.ref cu1, Value.ref cu2, Value.ref cu3, Value.ref cu4, Value.int sc, Value.int to])), (cu2, Sum.inl (cc2, 4, Sum.inl cf2)), (cu3, Sum.inl (cc3, 4, Sum.inl cf3))]) F hK hP hD hS hA (c_reach l D h0 rv wy1 wy2 wy3 wy4 wc1 wc2 t1_20 t2_21 cr q9_19 q1 q2 q3 q4 q5 q6 cy1 cy5 f1 f5 w h (nI (qv_4 % 10)) z_25 z_10 (by omega) (by omega) (by omega) (by assumption)) ⟨gk_X8_111.1, gk_X8_111.2, Nat.le_of_ble_eq_true rfl, Nat.le_of_ble_eq_true rfl⟩ [4, 5, 6, 7, 8, 9] [0, 1, 2, 3] [0, 1, 4, 5] ⟨rfl, rfl, rfl, rfl, by decide⟩ rfl xT_move (fun _ _ _ => trivial) 4 rfl rfl rfl hl.1 rfl (Nat.le_of_ble_eq_true rfl) dX8_spreadFrom_151 ⟨Nat.le_of_ble_eq_true rfl, Nat.le_of_ble_eq_true rfl⟩ (fun u H locs hw hK1 hP hD hS => ?_)
        obtain ⟨q9_26, t1_27, t2_28⟩ := u
        have hP : va_P D vwCl [(fa, Sum.inr (3, [Value.ref cu, Value.ref rv, Value.ref bt, Value.int (nI bc), Value.int ho, Value.int fe])), (cu, Sum.inr (1, [Value.ref cu1, Value.ref cu2, Value.ref cu3, Value.ref cu4, Value.int sc, Value.int to])), (cu2, Sum.inl (cc2, 4, Sum.inl cf2)), (cu3, Sum.inl (cc3, 4, Sum.inl cf3)), (h0, Sum.inr (7, [Value.ref wy1, Value.ref wy2, Value.int (nI q9_26), Value.ref wy3, Value.ref wy4, Value.int cr])), (wy1, Sum.inl (wc1, 100, Sum.inl t1_27)), (wy2, Sum.inl (wc2, 100, Sum.inl t2_28)), (rv, Sum.inr (5, [Value.int (nI w), Value.int (nI h), Value.ref q1, Value.ref q2, Value.ref q3, Value.ref q4, Value.ref q5, Value.ref q6])), (q1, Sum.inl (cy1, 100, Sum.inl f1)), (q5, Sum.inl (cy5, 100, Sum.inl f5))] H := hP
        have hD : va_D A [(fa, Sum.inr (3, [Value.ref cu, Value.ref rv, Value.ref bt, Value.int (nI bc), Value.int ho, Value.int fe])), (cu, Sum.inr (1, [Value.ref cu1, Value.ref cu2, Value.ref cu3, Value.ref cu4, Value.int sc, Value.int to])), (cu2, Sum.inl (cc2, 4, Sum.inl cf2)), (cu3, Sum.inl (cc3, 4, Sum.inl cf3)), (h0, Sum.inr (7, [Value.ref wy1, Value.ref wy2, Value.int (nI q9_26), Value.ref wy3, Value.ref wy4, Value.int cr])), (wy1, Sum.inl (wc1, 100, Sum.inl t1_27)), (wy2, Sum.inl (wc2, 100, Sum.inl t2_28)), (rv, Sum.inr (5, [Value.int (nI w), Value.int (nI h), Value.ref q1, Value.ref q2, Value.ref q3, Value.ref q4, Value.ref q5, Value.ref q6])), (q1, Sum.inl (cy1, 100, Sum.inl f1)), (q5, Sum.inl (cy5, 100, Sum.inl f5))] := hD
        have hw_30 : q9_26 ≤ 100 ∧ q9_19 ≤ q9_26 ∧ qOK t2_28 q9_26 := hw
        obtain ⟨lok_31, mok_31, ok_31⟩ := hw_30
        refine lv_aload_n hx hb dX8_spreadFrom_154 rfl (lv_at hl 3 rfl) ?_
        refine lv_aload_n hx hb dX8_spreadFrom_155 rfl (lv_at hl 4 rfl) ?_
        refine va_get (D := D) (ci := 3) (v := Value.ref rv) (C := RX3) (T := TX3) (N := 6) hx hb hts inG_X3 hown hK hP 0 rfl rfl 1 (by decide) (hts _ kw_1_221) (fun _ h9 => h9) rfl dX8_spreadFrom_156 ?_
        refine lv_iload hx hb dX8_spreadFrom_159 (lv_at hl 2 rfl) ?_
        refine lv_iload hx hb dX8_spreadFrom_161 (lv_at hl 1 rfl) ?_
        refine lv_iconst (v := 1) hx hb dX8_spreadFrom_163 (by decide) ?_
        refine lv_iadd hx hb dX8_spreadFrom_164 ?_
        refine lv_topi (fun z_32 ez_32 => ?_)
        obtain rfl : z_32 = nI (qv_4 / 10 + 1) := ez_32.trans (nI_add (qv_4 / 10) 1)
        refine lv_iload hx hb dX8_spreadFrom_165 (lv_at hl 0 rfl) ?_
        refine mc_Vv (rest := []) (wr := [(fa, Sum.inr (3, [Value.ref cu, Value.ref rv, Value.ref bt, Value.int (nI bc), Value.int ho, Value.int fe])), (cu, Sum.inr (1, [Value.ref cu1, Value.ref cu2, Value.ref cu3, Value.ref cu4, Value.int sc, Value.int to])), (cu2, Sum.inl (cc2, 4, Sum.inl cf2)), (cu3, Sum.inl (cc3, 4, Sum.inl cf3))]) F hK hP hD hS hA (c_reach l D h0 rv wy1 wy2 wy3 wy4 wc1 wc2 t1_27 t2_28 cr q9_26 q1 q2 q3 q4 q5 q6 cy1 cy5 f1 f5 w h (nI (qv_4 % 10)) (nI (qv_4 / 10 + 1)) z_10 (by omega) (by omega) (by omega) (by assumption)) ⟨gk_X8_111.1, gk_X8_111.2, Nat.le_of_ble_eq_true rfl, Nat.le_of_ble_eq_true rfl⟩ [4, 5, 6, 7, 8, 9] [0, 1, 2, 3] [0, 1, 4, 5] ⟨rfl, rfl, rfl, rfl, by decide⟩ rfl xT_move (fun _ _ _ => trivial) 4 rfl rfl rfl hl.1 rfl (Nat.le_of_ble_eq_true rfl) dX8_spreadFrom_167 ⟨Nat.le_of_ble_eq_true rfl, Nat.le_of_ble_eq_true rfl⟩ (fun u H locs hw hK1 hP hD hS => ?_)
        obtain ⟨q9_33, t1_34, t2_35⟩ := u
        have hP : va_P D vwCl [(fa, Sum.inr (3, [Value.ref cu, Value.ref rv, Value.ref bt, Value.int (nI bc), Value.int ho, Value.int fe])), (cu, Sum.inr (1, [Value.ref cu1, Value.ref cu2, Value.ref cu3, Value.ref cu4, Value.int sc, Value.int to])), (cu2, Sum.inl (cc2, 4, Sum.inl cf2)), (cu3, Sum.inl (cc3, 4, Sum.inl cf3)), (h0, Sum.inr (7, [Value.ref wy1, Value.ref wy2, Value.int (nI q9_33), Value.ref wy3, Value.ref wy4, Value.int cr])), (wy1, Sum.inl (wc1, 100, Sum.inl t1_34)), (wy2, Sum.inl (wc2, 100, Sum.inl t2_35)), (rv, Sum.inr (5, [Value.int (nI w), Value.int (nI h), Value.ref q1, Value.ref q2, Value.ref q3, Value.ref q4, Value.ref q5, Value.ref q6])), (q1, Sum.inl (cy1, 100, Sum.inl f1)), (q5, Sum.inl (cy5, 100, Sum.inl f5))] H := hP
        have hD : va_D A [(fa, Sum.inr (3, [Value.ref cu, Value.ref rv, Value.ref bt, Value.int (nI bc), Value.int ho, Value.int fe])), (cu, Sum.inr (1, [Value.ref cu1, Value.ref cu2, Value.ref cu3, Value.ref cu4, Value.int sc, Value.int to])), (cu2, Sum.inl (cc2, 4, Sum.inl cf2)), (cu3, Sum.inl (cc3, 4, Sum.inl cf3)), (h0, Sum.inr (7, [Value.ref wy1, Value.ref wy2, Value.int (nI q9_33), Value.ref wy3, Value.ref wy4, Value.int cr])), (wy1, Sum.inl (wc1, 100, Sum.inl t1_34)), (wy2, Sum.inl (wc2, 100, Sum.inl t2_35)), (rv, Sum.inr (5, [Value.int (nI w), Value.int (nI h), Value.ref q1, Value.ref q2, Value.ref q3, Value.ref q4, Value.ref q5, Value.ref q6])), (q1, Sum.inl (cy1, 100, Sum.inl f1)), (q5, Sum.inl (cy5, 100, Sum.inl f5))] := hD
        have hw_37 : q9_33 ≤ 100 ∧ q9_26 ≤ q9_33 ∧ qOK t2_35 q9_33 := hw
        obtain ⟨lok_38, mok_38, ok_38⟩ := hw_37
        refine lv_iinc (v := nI (i + 1)) (lv' := [(3, Value.int (nI (i + 1))), (6, Value.int z_10), (5, Value.int (nI (qv_4 / 10))), (4, Value.int (nI (qv_4 % 10))), (0, Value.ref h0), (1, Value.ref fa)]) hx hb dX8_spreadFrom_170 hl (k := 5) rfl (nI_add i 1) (by decide) rfl (fun ls hl => ?_)
        refine lv_goto (tgt := 55) hx hb dX8_spreadFrom_173 (by decide) ?_
        exact ih q9_33 t1_34 t2_35 (i + 1) (by omega) (by omega) (by omega) (by omega) ok_38 (by omega) H locs (hP.sub [4, 5, 6, 0, 1, 2, 3, 7, 8, 9] rfl) (hD.sub [4, 5, 6, 0, 1, 2, 3, 7, 8, 9] (by decide) rfl) hS ls (lv_sub hl [4, 5, 0] rfl)
theorem dX8_spreadFrom_0 : decode cX8_spreadFrom 0 = .ok (.iconst 0, 1) := by decide +kernel
theorem dX8_spreadFrom_1 : decode cX8_spreadFrom 1 = .ok (.istore_n 3, 1) := by decide +kernel
theorem dX8_spreadFrom_21 : decode cX8_spreadFrom 21 = .ok (.aload_n 0, 1) := by decide +kernel
theorem dX8_spreadFrom_22 : decode cX8_spreadFrom 22 = .ok (.iconst 0, 1) := by decide +kernel
theorem dX8_spreadFrom_23 : decode cX8_spreadFrom 23 = .ok (.putfield 102, 3) := by decide +kernel
theorem dX8_spreadFrom_26 : decode cX8_spreadFrom 26 = .ok (.aload_n 0, 1) := by decide +kernel
theorem dX8_spreadFrom_27 : decode cX8_spreadFrom 27 = .ok (.aload_n 1, 1) := by decide +kernel
theorem dX8_spreadFrom_28 : decode cX8_spreadFrom 28 = .ok (.getfield 45, 3) := by decide +kernel
theorem dX8_spreadFrom_31 : decode cX8_spreadFrom 31 = .ok (.aload_n 1, 1) := by decide +kernel
theorem kw_1_216 : Cond.fieldLink RX8 30 "IceFair$Fair" "customs" "LIceFair$Customs;" ∈ gw := gw_t1 (List.mem_of_getElem? (i := 216) (by decide +kernel)) (by decide +kernel)
theorem dX8_spreadFrom_32 : decode cX8_spreadFrom 32 = .ok (.getfield 30, 3) := by decide +kernel
theorem kw_1_101 : Cond.fieldLink RX8 105 "IceFair$Customs" "stairX" "[I" ∈ gw := gw_t1 (List.mem_of_getElem? (i := 101) (by decide +kernel)) (by decide +kernel)
theorem dX8_spreadFrom_35 : decode cX8_spreadFrom 35 = .ok (.getfield 105, 3) := by decide +kernel
theorem dX8_spreadFrom_38 : decode cX8_spreadFrom 38 = .ok (.iload_n 2, 1) := by decide +kernel
theorem dX8_spreadFrom_39 : decode cX8_spreadFrom 39 = .ok (.iaload, 1) := by decide +kernel
theorem dX8_spreadFrom_40 : decode cX8_spreadFrom 40 = .ok (.aload_n 1, 1) := by decide +kernel
theorem dX8_spreadFrom_41 : decode cX8_spreadFrom 41 = .ok (.getfield 30, 3) := by decide +kernel
theorem kw_1_103 : Cond.fieldLink RX8 108 "IceFair$Customs" "stairY" "[I" ∈ gw := gw_t1 (List.mem_of_getElem? (i := 103) (by decide +kernel)) (by decide +kernel)
theorem dX8_spreadFrom_44 : decode cX8_spreadFrom 44 = .ok (.getfield 108, 3) := by decide +kernel
theorem dX8_spreadFrom_47 : decode cX8_spreadFrom 47 = .ok (.iload_n 2, 1) := by decide +kernel
theorem dX8_spreadFrom_48 : decode cX8_spreadFrom 48 = .ok (.iaload, 1) := by decide +kernel
theorem dX8_spreadFrom_49 : decode cX8_spreadFrom 49 = .ok (.iconst 0, 1) := by decide +kernel
theorem dX8_spreadFrom_50 : decode cX8_spreadFrom 50 = .ok (.invokevirtual 111, 3) := by decide +kernel
theorem dX8_spreadFrom_53 : decode cX8_spreadFrom 53 = .ok (.iconst 0, 1) := by decide +kernel
theorem dX8_spreadFrom_54 : decode cX8_spreadFrom 54 = .ok (.istore_n 3, 1) := by decide +kernel
theorem dX8_spreadFrom_176 : decode cX8_spreadFrom 176 = .ok (.return_, 1) := by decide +kernel
set_option maxHeartbeats 4000000 in
set_option maxRecDepth 100000 in
theorem c_spreadFrom (l : Launch) (D : va_G) (h0 : Nat) (fa : Nat) (cu : Nat) (rv : Nat) (bt : Nat) (wy1 : Nat) (wy2 : Nat) (wy3 : Nat) (wy4 : Nat) (wc1 : ClassId) (wc2 : ClassId) (cr : Int32) (bc : Nat) (ho : Int32) (fe : Int32) (cu1 : Nat) (cu2 : Nat) (cu3 : Nat) (cu4 : Nat) (cc2 : ClassId) (cc3 : ClassId) (cf2 : Nat → Int32) (cf3 : Nat → Int32) (sc : Int32) (to : Int32) (q1 : Nat) (q2 : Nat) (q3 : Nat) (q4 : Nat) (q5 : Nat) (q6 : Nat) (cy1 : ClassId) (cy5 : ClassId) (f1 : Nat → Int32) (f5 : Nat → Int32) (w : Nat) (h : Nat) (s1 : Nat → Int32) (s2 : Nat → Int32) (qd : Int32) (t : Nat) (h3 : w ≤ 10) (h4 : h ≤ 10) (ht : t < 4) : cV l yX8_spreadFrom (.code yX8_spreadFrom cX8_spreadFrom 7 none) ({ frames := 3, cells := 0, slots := 0, locals := 69 }) D [(wc1, .int), (wc2, .int), (cc2, .int), (cc3, .int), (cy1, .int), (cy5, .boolean)] [(h0, Sum.inr (7, [Value.ref wy1, Value.ref wy2, Value.int qd, Value.ref wy3, Value.ref wy4, Value.int cr])), (wy1, Sum.inl (wc1, 100, Sum.inl s1)), (wy2, Sum.inl (wc2, 100, Sum.inl s2)), (fa, Sum.inr (3, [Value.ref cu, Value.ref rv, Value.ref bt, Value.int (nI bc), Value.int ho, Value.int fe])), (cu, Sum.inr (1, [Value.ref cu1, Value.ref cu2, Value.ref cu3, Value.ref cu4, Value.int sc, Value.int to])), (cu2, Sum.inl (cc2, 4, Sum.inl cf2)), (cu3, Sum.inl (cc3, 4, Sum.inl cf3)), (rv, Sum.inr (5, [Value.int (nI w), Value.int (nI h), Value.ref q1, Value.ref q2, Value.ref q3, Value.ref q4, Value.ref q5, Value.ref q6])), (q1, Sum.inl (cy1, 100, Sum.inl f1)), (q5, Sum.inl (cy5, 100, Sum.inl f5))] xT [Value.ref h0, Value.ref fa, Value.int (nI t)] (S := Nat × (Nat → Int32) × (Nat → Int32)) (fun u => match u with | (q9, t1, t2) => True) (fun u => match u with | (q9, t1, t2) => []) (fun u => match u with | (q9, t1, t2) => [(h0, Sum.inr (7, [Value.ref wy1, Value.ref wy2, Value.int (nI q9), Value.ref wy3, Value.ref wy4, Value.int cr])), (wy1, Sum.inl (wc1, 100, Sum.inl t1)), (wy2, Sum.inl (wc2, 100, Sum.inl t2)), (fa, Sum.inr (3, [Value.ref cu, Value.ref rv, Value.ref bt, Value.int (nI bc), Value.int ho, Value.int fe])), (cu, Sum.inr (1, [Value.ref cu1, Value.ref cu2, Value.ref cu3, Value.ref cu4, Value.int sc, Value.int to])), (cu2, Sum.inl (cc2, 4, Sum.inl cf2)), (cu3, Sum.inl (cc3, 4, Sum.inl cf3)), (rv, Sum.inr (5, [Value.int (nI w), Value.int (nI h), Value.ref q1, Value.ref q2, Value.ref q3, Value.ref q4, Value.ref q5, Value.ref q6])), (q1, Sum.inl (cy1, 100, Sum.inl f1)), (q5, Sum.inl (cy5, 100, Sum.inl f5))]) := by
  intro sz
  refine Met.ofW (cc := cX8_spreadFrom) (maxL := 7) (ret := none) (by decide) rfl ?_
  intro p e s m args below meth c s₁ B hml hv
  obtain ⟨rfl, hsz, hP, hK, hD0, hX⟩ := hv
  have hx := B.exec
  have hb := B.bytes
  have hr := B.returns
  have hts0 := atoms_spec (ws := .code yX8_spreadFrom cX8_spreadFrom 7 none :: gw) B.pre
  have hts := fun (w : Cond) (h : w ∈ gw) => hts0 w (List.mem_cons_of_mem _ h)
  have hown : s.vm.findClass RX8 = some m.cls := findClass_of_methodNamed B.named
  have hlocks := B.notSynchronized
  have F : mFix p s m _ c cX8_spreadFrom 7 RX8 := ⟨hx, hb, hml, hown, hts⟩
  subst hsz
  have hD := hD0.self (sz := s.heap.size)
  generalize hAe : va_A [(h0, Sum.inr (7, [Value.ref wy1, Value.ref wy2, Value.int qd, Value.ref wy3, Value.ref wy4, Value.int cr])), (wy1, Sum.inl (wc1, 100, Sum.inl s1)), (wy2, Sum.inl (wc2, 100, Sum.inl s2)), (fa, Sum.inr (3, [Value.ref cu, Value.ref rv, Value.ref bt, Value.int (nI bc), Value.int ho, Value.int fe])), (cu, Sum.inr (1, [Value.ref cu1, Value.ref cu2, Value.ref cu3, Value.ref cu4, Value.int sc, Value.int to])), (cu2, Sum.inl (cc2, 4, Sum.inl cf2)), (cu3, Sum.inl (cc3, 4, Sum.inl cf3)), (rv, Sum.inr (5, [Value.int (nI w), Value.int (nI h), Value.ref q1, Value.ref q2, Value.ref q3, Value.ref q4, Value.ref q5, Value.ref q6])), (q1, Sum.inl (cy1, 100, Sum.inl f1)), (q5, Sum.inl (cy5, 100, Sum.inl f5))] s.heap.size = A at hD hX ⊢
  have hA : ∀ q : Nat, s.heap.size ≤ q → A q := fun q h => by rw [← hAe]; exact Or.inr h
  have hS : va_S A s.heap s.heap [] := va_S.rf
  have hl := lv_entry ([Value.ref h0, Value.ref fa, Value.int (nI t)]) (n := 7) (Nat.le_of_ble_eq_true rfl)
  rw [lg_entry_eq]
  generalize (lg_sl ([Value.ref h0, Value.ref fa, Value.int (nI t)]) ++ List.replicate (7 - (lg_sl ([Value.ref h0, Value.ref fa, Value.int (nI t)])).length) Slot.unset).toArray = ls at hl ⊢
  have hl : lv_has ls 7 [(0, Value.ref h0), (1, Value.ref fa), (2, Value.int (nI t))] := hl
  have hP : va_P D vwCl [(h0, Sum.inr (7, [Value.ref wy1, Value.ref wy2, Value.int qd, Value.ref wy3, Value.ref wy4, Value.int cr])), (wy1, Sum.inl (wc1, 100, Sum.inl s1)), (wy2, Sum.inl (wc2, 100, Sum.inl s2)), (fa, Sum.inr (3, [Value.ref cu, Value.ref rv, Value.ref bt, Value.int (nI bc), Value.int ho, Value.int fe])), (cu, Sum.inr (1, [Value.ref cu1, Value.ref cu2, Value.ref cu3, Value.ref cu4, Value.int sc, Value.int to])), (cu2, Sum.inl (cc2, 4, Sum.inl cf2)), (cu3, Sum.inl (cc3, 4, Sum.inl cf3)), (rv, Sum.inr (5, [Value.int (nI w), Value.int (nI h), Value.ref q1, Value.ref q2, Value.ref q3, Value.ref q4, Value.ref q5, Value.ref q6])), (q1, Sum.inl (cy1, 100, Sum.inl f1)), (q5, Sum.inl (cy5, 100, Sum.inl f5))] s.heap := hP
  refine lv_iconst (v := 0) hx hb dX8_spreadFrom_0 (by decide) ?_
  refine lv_istore_n (lv' := [(3, Value.int 0), (0, Value.ref h0), (1, Value.ref fa), (2, Value.int (nI t))]) hx hb dX8_spreadFrom_1 rfl hl (by decide) rfl (fun ls hl => ?_)
  refine lp_spread1 F hA h0 fa cu rv bt wy1 wy2 wy3 wy4 wc1 wc2 cr bc ho fe cu1 cu2 cu3 cu4 cc2 cc3 cf2 cf3 sc to q1 q2 q3 q4 q5 q6 cy1 cy5 f1 f5 w h s2 qd t (hK.sub [0, 1, 2, 3, 4, 5] rfl) (fun t1_1  H locs hP hD hS ls hl => ?_) _ s1 0 (by omega) (Nat.lt_succ_self _) _ _ (hP.sub [0, 1, 2, 3, 4, 5, 6, 7, 8, 9] rfl) (hD.sub [0, 1, 2, 3, 4, 5, 6, 7, 8, 9] (by decide) rfl) hS ls (lv_sub hl [1, 2, 3, 0] rfl)
  refine lv_aload_n hx hb dX8_spreadFrom_21 rfl (lv_at hl 0 rfl) ?_
  refine lv_iconst (v := 0) hx hb dX8_spreadFrom_22 (by decide) ?_
  refine va_put (D := D) (ci := 7) (v := Value.int 0) (ty := .int) (C := RX8) (T := TX8) (N := 6) hx hb hts inG_X8 tyX8 tyX8_ok nmX8 hown hK hP hD hS 0 rfl rfl 2 (by decide) (hts _ kw_2_50) (fun _ h9 => h9) rfl (by decide +kernel) rfl rfl (Nat.le_of_ble_eq_true rfl) dX8_spreadFrom_23 (fun H locs hP hD hS => ?_)
  have hP : va_P D vwCl [(h0, Sum.inr (7, [Value.ref wy1, Value.ref wy2, Value.int 0, Value.ref wy3, Value.ref wy4, Value.int cr])), (wy1, Sum.inl (wc1, 100, Sum.inl t1_1)), (wy2, Sum.inl (wc2, 100, Sum.inl s2)), (fa, Sum.inr (3, [Value.ref cu, Value.ref rv, Value.ref bt, Value.int (nI bc), Value.int ho, Value.int fe])), (cu, Sum.inr (1, [Value.ref cu1, Value.ref cu2, Value.ref cu3, Value.ref cu4, Value.int sc, Value.int to])), (cu2, Sum.inl (cc2, 4, Sum.inl cf2)), (cu3, Sum.inl (cc3, 4, Sum.inl cf3)), (rv, Sum.inr (5, [Value.int (nI w), Value.int (nI h), Value.ref q1, Value.ref q2, Value.ref q3, Value.ref q4, Value.ref q5, Value.ref q6])), (q1, Sum.inl (cy1, 100, Sum.inl f1)), (q5, Sum.inl (cy5, 100, Sum.inl f5))] H := hP
  have hD : va_D A [(h0, Sum.inr (7, [Value.ref wy1, Value.ref wy2, Value.int 0, Value.ref wy3, Value.ref wy4, Value.int cr])), (wy1, Sum.inl (wc1, 100, Sum.inl t1_1)), (wy2, Sum.inl (wc2, 100, Sum.inl s2)), (fa, Sum.inr (3, [Value.ref cu, Value.ref rv, Value.ref bt, Value.int (nI bc), Value.int ho, Value.int fe])), (cu, Sum.inr (1, [Value.ref cu1, Value.ref cu2, Value.ref cu3, Value.ref cu4, Value.int sc, Value.int to])), (cu2, Sum.inl (cc2, 4, Sum.inl cf2)), (cu3, Sum.inl (cc3, 4, Sum.inl cf3)), (rv, Sum.inr (5, [Value.int (nI w), Value.int (nI h), Value.ref q1, Value.ref q2, Value.ref q3, Value.ref q4, Value.ref q5, Value.ref q6])), (q1, Sum.inl (cy1, 100, Sum.inl f1)), (q5, Sum.inl (cy5, 100, Sum.inl f5))] := hD
  refine lv_aload_n hx hb dX8_spreadFrom_26 rfl (lv_at hl 0 rfl) ?_
  refine lv_aload_n hx hb dX8_spreadFrom_27 rfl (lv_at hl 1 rfl) ?_
  refine va_get (D := D) (ci := 3) (v := Value.ref rv) (C := RX3) (T := TX3) (N := 6) hx hb hts inG_X3 hown hK hP 3 rfl rfl 1 (by decide) (hts _ kw_1_221) (fun _ h9 => h9) rfl dX8_spreadFrom_28 ?_
  refine lv_aload_n hx hb dX8_spreadFrom_31 rfl (lv_at hl 1 rfl) ?_
  refine va_get (D := D) (ci := 3) (v := Value.ref cu) (C := RX3) (T := TX3) (N := 6) hx hb hts inG_X3 hown hK hP 3 rfl rfl 0 (by decide) (hts _ kw_1_216) (fun _ h9 => h9) rfl dX8_spreadFrom_32 ?_
  refine va_get (D := D) (ci := 1) (v := Value.ref cu2) (C := RX1) (T := TX1) (N := 6) hx hb hts inG_X1 hown hK hP 4 rfl rfl 1 (by decide) (hts _ kw_1_101) (fun _ h9 => h9) rfl dX8_spreadFrom_35 ?_
  refine lv_iload_n hx hb dX8_spreadFrom_38 rfl (lv_at hl 2 rfl) ?_
  refine m_iald hx hb hK hP 5 2 rfl rfl t rfl (by omega) (by decide) dX8_spreadFrom_39 ?_
  refine lv_topi (fun v_2 ev_2 => ?_)
  refine lv_aload_n hx hb dX8_spreadFrom_40 rfl (lv_at hl 1 rfl) ?_
  refine va_get (D := D) (ci := 3) (v := Value.ref cu) (C := RX3) (T := TX3) (N := 6) hx hb hts inG_X3 hown hK hP 3 rfl rfl 0 (by decide) (hts _ kw_1_216) (fun _ h9 => h9) rfl dX8_spreadFrom_41 ?_
  refine va_get (D := D) (ci := 1) (v := Value.ref cu3) (C := RX1) (T := TX1) (N := 6) hx hb hts inG_X1 hown hK hP 4 rfl rfl 2 (by decide) (hts _ kw_1_103) (fun _ h9 => h9) rfl dX8_spreadFrom_44 ?_
  refine lv_iload_n hx hb dX8_spreadFrom_47 rfl (lv_at hl 2 rfl) ?_
  refine m_iald hx hb hK hP 6 3 rfl rfl t rfl (by omega) (by decide) dX8_spreadFrom_48 ?_
  refine lv_topi (fun v_3 ev_3 => ?_)
  refine lv_iconst (v := 0) hx hb dX8_spreadFrom_49 (by decide) ?_
  refine mc_Vv (rest := []) (wr := [(fa, Sum.inr (3, [Value.ref cu, Value.ref rv, Value.ref bt, Value.int (nI bc), Value.int ho, Value.int fe])), (cu, Sum.inr (1, [Value.ref cu1, Value.ref cu2, Value.ref cu3, Value.ref cu4, Value.int sc, Value.int to])), (cu2, Sum.inl (cc2, 4, Sum.inl cf2)), (cu3, Sum.inl (cc3, 4, Sum.inl cf3))]) F hK hP hD hS hA (c_reach l D h0 rv wy1 wy2 wy3 wy4 wc1 wc2 t1_1 s2 cr 0 q1 q2 q3 q4 q5 q6 cy1 cy5 f1 f5 w h v_2 v_3 0 (by omega) (by omega) (by omega) qOK_0) ⟨gk_X8_111.1, gk_X8_111.2, Nat.le_of_ble_eq_true rfl, Nat.le_of_ble_eq_true rfl⟩ [0, 1, 2, 7, 8, 9] [3, 4, 5, 6] [0, 1, 4, 5] ⟨rfl, rfl, rfl, rfl, by decide⟩ rfl xT_move (fun _ _ _ => trivial) 0 rfl rfl rfl hl.1 rfl (Nat.le_of_ble_eq_true rfl) dX8_spreadFrom_50 ⟨Nat.le_of_ble_eq_true rfl, Nat.le_of_ble_eq_true rfl⟩ (fun u H locs hw hK1 hP hD hS => ?_)
  obtain ⟨q9_4, t1_5, t2_6⟩ := u
  have hP : va_P D vwCl [(fa, Sum.inr (3, [Value.ref cu, Value.ref rv, Value.ref bt, Value.int (nI bc), Value.int ho, Value.int fe])), (cu, Sum.inr (1, [Value.ref cu1, Value.ref cu2, Value.ref cu3, Value.ref cu4, Value.int sc, Value.int to])), (cu2, Sum.inl (cc2, 4, Sum.inl cf2)), (cu3, Sum.inl (cc3, 4, Sum.inl cf3)), (h0, Sum.inr (7, [Value.ref wy1, Value.ref wy2, Value.int (nI q9_4), Value.ref wy3, Value.ref wy4, Value.int cr])), (wy1, Sum.inl (wc1, 100, Sum.inl t1_5)), (wy2, Sum.inl (wc2, 100, Sum.inl t2_6)), (rv, Sum.inr (5, [Value.int (nI w), Value.int (nI h), Value.ref q1, Value.ref q2, Value.ref q3, Value.ref q4, Value.ref q5, Value.ref q6])), (q1, Sum.inl (cy1, 100, Sum.inl f1)), (q5, Sum.inl (cy5, 100, Sum.inl f5))] H := hP
  have hD : va_D A [(fa, Sum.inr (3, [Value.ref cu, Value.ref rv, Value.ref bt, Value.int (nI bc), Value.int ho, Value.int fe])), (cu, Sum.inr (1, [Value.ref cu1, Value.ref cu2, Value.ref cu3, Value.ref cu4, Value.int sc, Value.int to])), (cu2, Sum.inl (cc2, 4, Sum.inl cf2)), (cu3, Sum.inl (cc3, 4, Sum.inl cf3)), (h0, Sum.inr (7, [Value.ref wy1, Value.ref wy2, Value.int (nI q9_4), Value.ref wy3, Value.ref wy4, Value.int cr])), (wy1, Sum.inl (wc1, 100, Sum.inl t1_5)), (wy2, Sum.inl (wc2, 100, Sum.inl t2_6)), (rv, Sum.inr (5, [Value.int (nI w), Value.int (nI h), Value.ref q1, Value.ref q2, Value.ref q3, Value.ref q4, Value.ref q5, Value.ref q6])), (q1, Sum.inl (cy1, 100, Sum.inl f1)), (q5, Sum.inl (cy5, 100, Sum.inl f5))] := hD
  have hw_8 : q9_4 ≤ 100 ∧ 0 ≤ q9_4 ∧ qOK t2_6 q9_4 := hw
  obtain ⟨lok_9, mok_9, ok_9⟩ := hw_8
  refine lv_iconst (v := 0) hx hb dX8_spreadFrom_53 (by decide) ?_
  refine lv_istore_n (lv' := [(3, Value.int 0), (0, Value.ref h0), (1, Value.ref fa), (2, Value.int (nI t))]) hx hb dX8_spreadFrom_54 rfl hl (by decide) rfl (fun ls hl => ?_)
  refine lp_spread2 F hA h0 fa cu rv bt wy1 wy2 wy3 wy4 wc1 wc2 cr bc ho fe cu1 cu2 cu3 cu4 cc2 cc3 cf2 cf3 sc to q1 q2 q3 q4 q5 q6 cy1 cy5 f1 f5 w h (hK.sub [0, 1, 2, 3, 4, 5] rfl) (fun q9_10 t1_11 t2_12  H locs hP hD hS ls hl => ?_) _ q9_4 t1_5 t2_6 0 (by omega) (by omega) (by omega) (by omega) ok_9 (Nat.lt_succ_self _) _ _ (hP.sub [4, 5, 6, 0, 1, 2, 3, 7, 8, 9] rfl) (hD.sub [4, 5, 6, 0, 1, 2, 3, 7, 8, 9] (by decide) rfl) hS ls (lv_sub hl [1, 2, 0] rfl)
  have hP9 := hP.sub (ws' := [(h0, Sum.inr (7, [Value.ref wy1, Value.ref wy2, Value.int (nI q9_10), Value.ref wy3, Value.ref wy4, Value.int cr])), (wy1, Sum.inl (wc1, 100, Sum.inl t1_11)), (wy2, Sum.inl (wc2, 100, Sum.inl t2_12)), (fa, Sum.inr (3, [Value.ref cu, Value.ref rv, Value.ref bt, Value.int (nI bc), Value.int ho, Value.int fe])), (cu, Sum.inr (1, [Value.ref cu1, Value.ref cu2, Value.ref cu3, Value.ref cu4, Value.int sc, Value.int to])), (cu2, Sum.inl (cc2, 4, Sum.inl cf2)), (cu3, Sum.inl (cc3, 4, Sum.inl cf3)), (rv, Sum.inr (5, [Value.int (nI w), Value.int (nI h), Value.ref q1, Value.ref q2, Value.ref q3, Value.ref q4, Value.ref q5, Value.ref q6])), (q1, Sum.inl (cy1, 100, Sum.inl f1)), (q5, Sum.inl (cy5, 100, Sum.inl f5))]) [0, 1, 2, 3, 4, 5, 6, 7, 8, 9] rfl
  have hD9 := hD.sub (ws' := [(h0, Sum.inr (7, [Value.ref wy1, Value.ref wy2, Value.int (nI q9_10), Value.ref wy3, Value.ref wy4, Value.int cr])), (wy1, Sum.inl (wc1, 100, Sum.inl t1_11)), (wy2, Sum.inl (wc2, 100, Sum.inl t2_12)), (fa, Sum.inr (3, [Value.ref cu, Value.ref rv, Value.ref bt, Value.int (nI bc), Value.int ho, Value.int fe])), (cu, Sum.inr (1, [Value.ref cu1, Value.ref cu2, Value.ref cu3, Value.ref cu4, Value.int sc, Value.int to])), (cu2, Sum.inl (cc2, 4, Sum.inl cf2)), (cu3, Sum.inl (cc3, 4, Sum.inl cf3)), (rv, Sum.inr (5, [Value.int (nI w), Value.int (nI h), Value.ref q1, Value.ref q2, Value.ref q3, Value.ref q4, Value.ref q5, Value.ref q6])), (q1, Sum.inl (cy1, 100, Sum.inl f1)), (q5, Sum.inl (cy5, 100, Sum.inl f5))]) [0, 1, 2, 3, 4, 5, 6, 7, 8, 9] (by decide) rfl
  have hK9 := hK.sub (tys' := []) [] rfl
  refine W.widen (k := 0) (n := 0) (by decide) (by decide) ?_
  exact W.vret hx hb hr (fun t ht hW => ⟨⟨(q9_10, t1_11, t2_12), rfl, trivial, by rw [ht]; exact hP9, va_K.moved hW.alike hK9, hD9⟩, hS.F ht⟩) hS.2.2 dX8_spreadFrom_176
