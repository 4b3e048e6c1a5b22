theorem dX6_has_0 : decode cX6_has 0 = .ok (.iload_n 1, 1) := by decide +kernel
theorem dX6_has_1 : decode cX6_has 1 = .ok (.ifCond .lt 27, 3) := by decide +kernel
theorem dX6_has_4 : decode cX6_has 4 = .ok (.iload_n 1, 1) := by decide +kernel
theorem dX6_has_5 : decode cX6_has 5 = .ok (.aload_n 0, 1) := by decide +kernel
theorem dX6_has_6 : decode cX6_has 6 = .ok (.getfield 35, 3) := by decide +kernel
theorem dX6_has_9 : decode cX6_has 9 = .ok (.if_icmp .ge 19, 3) := by decide +kernel
theorem dX6_has_12 : decode cX6_has 12 = .ok (.iload_n 2, 1) := by decide +kernel
theorem dX6_has_13 : decode cX6_has 13 = .ok (.ifCond .lt 15, 3) := by decide +kernel
theorem dX6_has_16 : decode cX6_has 16 = .ok (.iload_n 2, 1) := by decide +kernel
theorem dX6_has_17 : decode cX6_has 17 = .ok (.aload_n 0, 1) := by decide +kernel
theorem dX6_has_18 : decode cX6_has 18 = .ok (.getfield 39, 3) := by decide +kernel
theorem dX6_has_21 : decode cX6_has 21 = .ok (.if_icmp .ge 7, 3) := by decide +kernel
theorem dX6_has_24 : decode cX6_has 24 = .ok (.iconst 1, 1) := by decide +kernel
theorem dX6_has_25 : decode cX6_has 25 = .ok (.goto 4, 3) := by decide +kernel
theorem dX6_has_29 : decode cX6_has 29 = .ok (.ireturn, 1) := by decide +kernel
set_option maxHeartbeats 4000000 in
set_option maxRecDepth 100000 in
theorem c_has_in (l : Launch) (D : va_G) (h0 : Nat) (q1 : Nat) (q2 : Nat) (q3 : Nat) (q4 : Nat) (q5 : Nat) (q6 : Nat) (w : Nat) (h : Nat) (i : Nat) (j : Nat) (hw : w < 2 ^ 31) (hh : h < 2 ^ 31) (hi : i < w) (hj : j < h) : cI l yX6_has (.code yX6_has cX6_has 3 (some .boolean)) ({ frames := 0, cells := 0, slots := 0, locals := 0 }) D [] [(h0, Sum.inr (5, [Value.int (nI w), Value.int (nI h), Value.ref q1, Value.ref q2, Value.ref q3, Value.ref q4, Value.ref q5, Value.ref q6]))] xT [Value.ref h0, Value.int (nI i), Value.int (nI j)] (S := Unit) (fun r _ => r = 1) (fun _ => []) (fun _ => [(h0, Sum.inr (5, [Value.int (nI w), Value.int (nI h), Value.ref q1, Value.ref q2, Value.ref q3, Value.ref q4, Value.ref q5, Value.ref q6]))]) := by
  intro sz
  refine Met.ofW (cc := cX6_has) (maxL := 3) (ret := (some .boolean)) (by decide) rfl ?_
  intro p e s m args below meth c s₁ B hml hv
  obtain ⟨rfl, hsz, hP, hK, hD0, hX⟩ := hv
  have hx := B.exec
  have hb := B.bytes
  have hr := B.returns
  have hts0 := atoms_spec (ws := .code yX6_has cX6_has 3 (some .boolean) :: gw) B.pre
  have hts := fun (w : Cond) (h : w ∈ gw) => hts0 w (List.mem_cons_of_mem _ h)
  have hown : s.vm.findClass RX6 = some m.cls := findClass_of_methodNamed B.named
  have hlocks := B.notSynchronized
  have F : mFix p s m _ c cX6_has 3 RX6 := ⟨hx, hb, hml, hown, hts⟩
  subst hsz
  have hD := hD0.self (sz := s.heap.size)
  generalize hAe : va_A [(h0, Sum.inr (5, [Value.int (nI w), Value.int (nI h), Value.ref q1, Value.ref q2, Value.ref q3, Value.ref q4, Value.ref q5, Value.ref q6]))] s.heap.size = A at hD hX ⊢
  have hA : ∀ q : Nat, s.heap.size ≤ q → A q := fun q h => by rw [← hAe]; exact Or.inr h
  have hS : va_S A s.heap s.heap [] := va_S.rf
  have hl := lv_entry ([Value.ref h0, Value.int (nI i), Value.int (nI j)]) (n := 3) (Nat.le_of_ble_eq_true rfl)
  rw [lg_entry_eq]
  generalize (lg_sl ([Value.ref h0, Value.int (nI i), Value.int (nI j)]) ++ List.replicate (3 - (lg_sl ([Value.ref h0, Value.int (nI i), Value.int (nI j)])).length) Slot.unset).toArray = ls at hl ⊢
  have hl : lv_has ls 3 [(0, Value.ref h0), (1, Value.int (nI i)), (2, Value.int (nI j))] := hl
  have hP : va_P D vwCl [(h0, Sum.inr (5, [Value.int (nI w), Value.int (nI h), Value.ref q1, Value.ref q2, Value.ref q3, Value.ref q4, Value.ref q5, Value.ref q6]))] s.heap := hP
  refine lv_iload_n hx hb dX6_has_0 rfl (lv_at hl 1 rfl) ?_
  refine lv_if_lt (tgt := 28) hx hb dX6_has_1 (by decide) (fun c_1 => absurd c_1 (nI_pos (by omega))) (fun c_1 => ?_)
  have c_1n : 0 ≤ i := nb_lt (by omega) (by omega) c_1
  refine lv_iload_n hx hb dX6_has_4 rfl (lv_at hl 1 rfl) ?_
  refine lv_aload_n hx hb dX6_has_5 rfl (lv_at hl 0 rfl) ?_
  refine va_get (D := D) (ci := 5) (v := Value.int (nI w)) (C := RX6) (T := TX6) (N := 8) hx hb hts inG_X6 hown hK hP 0 rfl rfl 0 (by decide) (hts _ kw_1_142) (fun _ h9 => h9) rfl dX6_has_6 ?_
  refine lv_icmp_ge (tgt := 28) hx hb dX6_has_9 (by decide) (fun c_2 => absurd ((nI_leI (by omega) (by omega)).mp c_2) (by omega)) (fun c_2 => ?_)
  have c_2n : i < w := nb_le (by omega) (by omega) c_2
  have c_2 := Int32.not_le.mp c_2
  refine lv_iload_n hx hb dX6_has_12 rfl (lv_at hl 2 rfl) ?_
  refine lv_if_lt (tgt := 28) hx hb dX6_has_13 (by decide) (fun c_3 => absurd c_3 (nI_pos (by omega))) (fun c_3 => ?_)
  have c_3n : 0 ≤ j := nb_lt (by omega) (by omega) c_3
  refine lv_iload_n hx hb dX6_has_16 rfl (lv_at hl 2 rfl) ?_
  refine lv_aload_n hx hb dX6_has_17 rfl (lv_at hl 0 rfl) ?_
  refine va_get (D := D) (ci := 5) (v := Value.int (nI h)) (C := RX6) (T := TX6) (N := 8) hx hb hts inG_X6 hown hK hP 0 rfl rfl 1 (by decide) (hts _ kw_1_145) (fun _ h9 => h9) rfl dX6_has_18 ?_
  refine lv_icmp_ge (tgt := 28) hx hb dX6_has_21 (by decide) (fun c_4 => absurd ((nI_leI (by omega) (by omega)).mp c_4) (by omega)) (fun c_4 => ?_)
  have c_4n : j < h := nb_le (by omega) (by omega) c_4
  have c_4 := Int32.not_le.mp c_4
  refine lv_iconst (v := 1) hx hb dX6_has_24 (by decide) ?_
  refine lv_goto (tgt := 29) hx hb dX6_has_25 (by decide) ?_
  have hP9 := hP.sub (ws' := [(h0, Sum.inr (5, [Value.int (nI w), Value.int (nI h), Value.ref q1, Value.ref q2, Value.ref q3, Value.ref q4, Value.ref q5, Value.ref q6]))]) [0] rfl
  have hD9 := hD.sub (ws' := [(h0, Sum.inr (5, [Value.int (nI w), Value.int (nI h), Value.ref q1, Value.ref q2, Value.ref q3, Value.ref q4, Value.ref q5, Value.ref q6]))]) [0] (by decide) rfl
  have hK9 := hK.sub (tys' := []) [] rfl
  refine W.widen (k := 0) (n := 0) (by decide) (by decide) ?_
  exact W.zret (v := 1) hx hb hr rfl (fun t ht hW => ⟨⟨1, (), rfl, rfl, by rw [ht]; exact hP9, va_K.moved hW.alike hK9, hD9⟩, hS.F ht⟩) hS.2.2 dX6_has_29
theorem dX6_has_28 : decode cX6_has 28 = .ok (.iconst 0, 1) := by decide +kernel
set_option maxHeartbeats 4000000 in
set_option maxRecDepth 100000 in
theorem c_has_any (l : Launch) (D : va_G) (h0 : Nat) (q1 : Nat) (q2 : Nat) (q3 : Nat) (q4 : Nat) (q5 : Nat) (q6 : Nat) (w : Nat) (h : Nat) (x : Int32) (y : Int32) (hw : w < 2 ^ 31) (hh : h < 2 ^ 31) : cI l yX6_has (.code yX6_has cX6_has 3 (some .boolean)) ({ frames := 0, cells := 0, slots := 0, locals := 0 }) D [] [(h0, Sum.inr (5, [Value.int (nI w), Value.int (nI h), Value.ref q1, Value.ref q2, Value.ref q3, Value.ref q4, Value.ref q5, Value.ref q6]))] xT [Value.ref h0, Value.int x, Value.int y] (S := Unit) (fun r _ => r = (if (x < 0 ∨ ¬ x < nI w ∨ y < 0 ∨ ¬ y < nI h) then 0 else 1)) (fun _ => []) (fun _ => [(h0, Sum.inr (5, [Value.int (nI w), Value.int (nI h), Value.ref q1, Value.ref q2, Value.ref q3, Value.ref q4, Value.ref q5, Value.ref q6]))]) := by
  intro sz
  refine Met.ofW (cc := cX6_has) (maxL := 3) (ret := (some .boolean)) (by decide) rfl ?_
  intro p e s m args below meth c s₁ B hml hv
  obtain ⟨rfl, hsz, hP, hK, hD0, hX⟩ := hv
  have hx := B.exec
  have hb := B.bytes
  have hr := B.returns
  have hts0 := atoms_spec (ws := .code yX6_has cX6_has 3 (some .boolean) :: gw) B.pre
  have hts := fun (w : Cond) (h : w ∈ gw) => hts0 w (List.mem_cons_of_mem _ h)
  have hown : s.vm.findClass RX6 = some m.cls := findClass_of_methodNamed B.named
  have hlocks := B.notSynchronized
  have F : mFix p s m _ c cX6_has 3 RX6 := ⟨hx, hb, hml, hown, hts⟩
  subst hsz
  have hD := hD0.self (sz := s.heap.size)
  generalize hAe : va_A [(h0, Sum.inr (5, [Value.int (nI w), Value.int (nI h), Value.ref q1, Value.ref q2, Value.ref q3, Value.ref q4, Value.ref q5, Value.ref q6]))] s.heap.size = A at hD hX ⊢
  have hA : ∀ q : Nat, s.heap.size ≤ q → A q := fun q h => by rw [← hAe]; exact Or.inr h
  have hS : va_S A s.heap s.heap [] := va_S.rf
  have hl := lv_entry ([Value.ref h0, Value.int x, Value.int y]) (n := 3) (Nat.le_of_ble_eq_true rfl)
  rw [lg_entry_eq]
  generalize (lg_sl ([Value.ref h0, Value.int x, Value.int y]) ++ List.replicate (3 - (lg_sl ([Value.ref h0, Value.int x, Value.int y])).length) Slot.unset).toArray = ls at hl ⊢
  have hl : lv_has ls 3 [(0, Value.ref h0), (1, Value.int x), (2, Value.int y)] := hl
  have hP : va_P D vwCl [(h0, Sum.inr (5, [Value.int (nI w), Value.int (nI h), Value.ref q1, Value.ref q2, Value.ref q3, Value.ref q4, Value.ref q5, Value.ref q6]))] s.heap := hP
  refine lv_iload_n hx hb dX6_has_0 rfl (lv_at hl 1 rfl) ?_
  refine lv_if_lt (tgt := 28) hx hb dX6_has_1 (by decide) (fun c_1 => ?_) (fun c_1 => ?_)
  · skip
    refine lv_iconst (v := 0) hx hb dX6_has_28 (by decide) ?_
    have hP9 := hP.sub (ws' := [(h0, Sum.inr (5, [Value.int (nI w), Value.int (nI h), Value.ref q1, Value.ref q2, Value.ref q3, Value.ref q4, Value.ref q5, Value.ref q6]))]) [0] rfl
    have hD9 := hD.sub (ws' := [(h0, Sum.inr (5, [Value.int (nI w), Value.int (nI h), Value.ref q1, Value.ref q2, Value.ref q3, Value.ref q4, Value.ref q5, Value.ref q6]))]) [0] (by decide) rfl
    have hK9 := hK.sub (tys' := []) [] rfl
    refine W.widen (k := 0) (n := 0) (by decide) (by decide) ?_
    exact W.zret (v := 0) hx hb hr rfl (fun t ht hW => ⟨⟨0, (), rfl, by simp only [c_1, or_false, false_or, or_true, true_or, not_true_eq_false, not_false_eq_true, ↓reduceIte], by rw [ht]; exact hP9, va_K.moved hW.alike hK9, hD9⟩, hS.F ht⟩) hS.2.2 dX6_has_29
  · skip
    refine lv_iload_n hx hb dX6_has_4 rfl (lv_at hl 1 rfl) ?_
    refine lv_aload_n hx hb dX6_has_5 rfl (lv_at hl 0 rfl) ?_
    refine va_get (D := D) (ci := 5) (v := Value.int (nI w)) (C := RX6) (T := TX6) (N := 8) hx hb hts inG_X6 hown hK hP 0 rfl rfl 0 (by decide) (hts _ kw_1_142) (fun _ h9 => h9) rfl dX6_has_6 ?_
    refine lv_icmp_ge (tgt := 28) hx hb dX6_has_9 (by decide) (fun c_2 => ?_) (fun c_2 => ?_)
    · skip
      have c_2 := Int32.not_lt.mpr c_2
      refine lv_iconst (v := 0) hx hb dX6_has_28 (by decide) ?_
      have hP9 := hP.sub (ws' := [(h0, Sum.inr (5, [Value.int (nI w), Value.int (nI h), Value.ref q1, Value.ref q2, Value.ref q3, Value.ref q4, Value.ref q5, Value.ref q6]))]) [0] rfl
      have hD9 := hD.sub (ws' := [(h0, Sum.inr (5, [Value.int (nI w), Value.int (nI h), Value.ref q1, Value.ref q2, Value.ref q3, Value.ref q4, Value.ref q5, Value.ref q6]))]) [0] (by decide) rfl
      have hK9 := hK.sub (tys' := []) [] rfl
      refine W.widen (k := 0) (n := 0) (by decide) (by decide) ?_
      exact W.zret (v := 0) hx hb hr rfl (fun t ht hW => ⟨⟨0, (), rfl, by simp only [c_1, c_2, or_false, false_or, or_true, true_or, not_true_eq_false, not_false_eq_true, ↓reduceIte], by rw [ht]; exact hP9, va_K.moved hW.alike hK9, hD9⟩, hS.F ht⟩) hS.2.2 dX6_has_29
    · skip
      have c_2 := Int32.not_le.mp c_2
      refine lv_iload_n hx hb dX6_has_12 rfl (lv_at hl 2 rfl) ?_
      refine lv_if_lt (tgt := 28) hx hb dX6_has_13 (by decide) (fun c_3 => ?_) (fun c_3 => ?_)
      · skip
        refine lv_iconst (v := 0) hx hb dX6_has_28 (by decide) ?_
        have hP9 := hP.sub (ws' := [(h0, Sum.inr (5, [Value.int (nI w), Value.int (nI h), Value.ref q1, Value.ref q2, Value.ref q3, Value.ref q4, Value.ref q5, Value.ref q6]))]) [0] rfl
        have hD9 := hD.sub (ws' := [(h0, Sum.inr (5, [Value.int (nI w), Value.int (nI h), Value.ref q1, Value.ref q2, Value.ref q3, Value.ref q4, Value.ref q5, Value.ref q6]))]) [0] (by decide) rfl
        have hK9 := hK.sub (tys' := []) [] rfl
        refine W.widen (k := 0) (n := 0) (by decide) (by decide) ?_
        exact W.zret (v := 0) hx hb hr rfl (fun t ht hW => ⟨⟨0, (), rfl, by simp only [c_1, c_2, c_3, or_false, false_or, or_true, true_or, not_true_eq_false, not_false_eq_true, ↓reduceIte], by rw [ht]; exact hP9, va_K.moved hW.alike hK9, hD9⟩, hS.F ht⟩) hS.2.2 dX6_has_29
      · skip
        refine lv_iload_n hx hb dX6_has_16 rfl (lv_at hl 2 rfl) ?_
        refine lv_aload_n hx hb dX6_has_17 rfl (lv_at hl 0 rfl) ?_
        refine va_get (D := D) (ci := 5) (v := Value.int (nI h)) (C := RX6) (T := TX6) (N := 8) hx hb hts inG_X6 hown hK hP 0 rfl rfl 1 (by decide) (hts _ kw_1_145) (fun _ h9 => h9) rfl dX6_has_18 ?_
        refine lv_icmp_ge (tgt := 28) hx hb dX6_has_21 (by decide) (fun c_4 => ?_) (fun c_4 => ?_)
        · skip
          have c_4 := Int32.not_lt.mpr c_4
          refine lv_iconst (v := 0) hx hb dX6_has_28 (by decide) ?_
          have hP9 := hP.sub (ws' := [(h0, Sum.inr (5, [Value.int (nI w), Value.int (nI h), Value.ref q1, Value.ref q2, Value.ref q3, Value.ref q4, Value.ref q5, Value.ref q6]))]) [0] rfl
          have hD9 := hD.sub (ws' := [(h0, Sum.inr (5, [Value.int (nI w), Value.int (nI h), Value.ref q1, Value.ref q2, Value.ref q3, Value.ref q4, Value.ref q5, Value.ref q6]))]) [0] (by decide) rfl
          have hK9 := hK.sub (tys' := []) [] rfl
          refine W.widen (k := 0) (n := 0) (by decide) (by decide) ?_
          exact W.zret (v := 0) hx hb hr rfl (fun t ht hW => ⟨⟨0, (), rfl, by simp only [c_1, c_2, c_3, c_4, or_false, false_or, or_true, true_or, not_true_eq_false, not_false_eq_true, ↓reduceIte], by rw [ht]; exact hP9, va_K.moved hW.alike hK9, hD9⟩, hS.F ht⟩) hS.2.2 dX6_has_29
        · skip
          have c_4 := Int32.not_le.mp c_4
          refine lv_iconst (v := 1) hx hb dX6_has_24 (by decide) ?_
          refine lv_goto (tgt := 29) hx hb dX6_has_25 (by decide) ?_
          have hP9 := hP.sub (ws' := [(h0, Sum.inr (5, [Value.int (nI w), Value.int (nI h), Value.ref q1, Value.ref q2, Value.ref q3, Value.ref q4, Value.ref q5, Value.ref q6]))]) [0] rfl
          have hD9 := hD.sub (ws' := [(h0, Sum.inr (5, [Value.int (nI w), Value.int (nI h), Value.ref q1, Value.ref q2, Value.ref q3, Value.ref q4, Value.ref q5, Value.ref q6]))]) [0] (by decide) rfl
          have hK9 := hK.sub (tys' := []) [] rfl
          refine W.widen (k := 0) (n := 0) (by decide) (by decide) ?_
          exact W.zret (v := 1) hx hb hr rfl (fun t ht hW => ⟨⟨1, (), rfl, by simp only [c_1, c_2, c_3, c_4, or_false, false_or, or_true, true_or, not_true_eq_false, not_false_eq_true, ↓reduceIte], by rw [ht]; exact hP9, va_K.moved hW.alike hK9, hD9⟩, hS.F ht⟩) hS.2.2 dX6_has_29
theorem dX6_spotOf_0 : decode cX6_spotOf 0 = .ok (.iload_n 2, 1) := by decide +kernel
theorem dX6_spotOf_1 : decode cX6_spotOf 1 = .ok (.bipush 10, 2) := by decide +kernel
theorem dX6_spotOf_3 : decode cX6_spotOf 3 = .ok (.imul, 1) := by decide +kernel
theorem dX6_spotOf_4 : decode cX6_spotOf 4 = .ok (.iload_n 1, 1) := by decide +kernel
theorem dX6_spotOf_5 : decode cX6_spotOf 5 = .ok (.iadd, 1) := by decide +kernel
theorem dX6_spotOf_6 : decode cX6_spotOf 6 = .ok (.ireturn, 1) := by decide +kernel
set_option maxHeartbeats 4000000 in
set_option maxRecDepth 100000 in
theorem c_spotOf (l : Launch) (D : va_G) (h0 : Nat) (q1 : Nat) (q2 : Nat) (q3 : Nat) (q4 : Nat) (q5 : Nat) (q6 : Nat) (w : Nat) (h : Nat) (i : Nat) (j : Nat) : cI l yX6_spotOf (.code yX6_spotOf cX6_spotOf 3 (some .int)) ({ frames := 0, cells := 0, slots := 0, locals := 0 }) D [] [(h0, Sum.inr (5, [Value.int (nI w), Value.int (nI h), Value.ref q1, Value.ref q2, Value.ref q3, Value.ref q4, Value.ref q5, Value.ref q6]))] xT [Value.ref h0, Value.int (nI i), Value.int (nI j)] (S := Unit) (fun r _ => r = nI (j * 10 + i)) (fun _ => []) (fun _ => [(h0, Sum.inr (5, [Value.int (nI w), Value.int (nI h), Value.ref q1, Value.ref q2, Value.ref q3, Value.ref q4, Value.ref q5, Value.ref q6]))]) := by
  intro sz
  refine Met.ofW (cc := cX6_spotOf) (maxL := 3) (ret := (some .int)) (by decide) rfl ?_
  intro p e s m args below meth c s₁ B hml hv
  obtain ⟨rfl, hsz, hP, hK, hD0, hX⟩ := hv
  have hx := B.exec
  have hb := B.bytes
  have hr := B.returns
  have hts0 := atoms_spec (ws := .code yX6_spotOf cX6_spotOf 3 (some .int) :: gw) B.pre
  have hts := fun (w : Cond) (h : w ∈ gw) => hts0 w (List.mem_cons_of_mem _ h)
  have hown : s.vm.findClass RX6 = some m.cls := findClass_of_methodNamed B.named
  have hlocks := B.notSynchronized
  have F : mFix p s m _ c cX6_spotOf 3 RX6 := ⟨hx, hb, hml, hown, hts⟩
  subst hsz
  have hD := hD0.self (sz := s.heap.size)
  generalize hAe : va_A [(h0, Sum.inr (5, [Value.int (nI w), Value.int (nI h), Value.ref q1, Value.ref q2, Value.ref q3, Value.ref q4, Value.ref q5, Value.ref q6]))] s.heap.size = A at hD hX ⊢
  have hA : ∀ q : Nat, s.heap.size ≤ q → A q := fun q h => by rw [← hAe]; exact Or.inr h
  have hS : va_S A s.heap s.heap [] := va_S.rf
  have hl := lv_entry ([Value.ref h0, Value.int (nI i), Value.int (nI j)]) (n := 3) (Nat.le_of_ble_eq_true rfl)
  rw [lg_entry_eq]
  generalize (lg_sl ([Value.ref h0, Value.int (nI i), Value.int (nI j)]) ++ List.replicate (3 - (lg_sl ([Value.ref h0, Value.int (nI i), Value.int (nI j)])).length) Slot.unset).toArray = ls at hl ⊢
  have hl : lv_has ls 3 [(0, Value.ref h0), (1, Value.int (nI i)), (2, Value.int (nI j))] := hl
  have hP : va_P D vwCl [(h0, Sum.inr (5, [Value.int (nI w), Value.int (nI h), Value.ref q1, Value.ref q2, Value.ref q3, Value.ref q4, Value.ref q5, Value.ref q6]))] s.heap := hP
  refine lv_iload_n hx hb dX6_spotOf_0 rfl (lv_at hl 2 rfl) ?_
  refine lv_bipush (v := 10) hx hb dX6_spotOf_1 (by decide) ?_
  refine lv_imul hx hb dX6_spotOf_3 ?_
  refine lv_topi (fun z_1 ez_1 => ?_)
  obtain rfl : z_1 = nI (j * 10) := ez_1.trans (pk_mul j 10)
  refine lv_iload_n hx hb dX6_spotOf_4 rfl (lv_at hl 1 rfl) ?_
  refine lv_iadd hx hb dX6_spotOf_5 ?_
  refine lv_topi (fun z_2 ez_2 => ?_)
  obtain rfl : z_2 = nI (j * 10 + i) := ez_2.trans (nI_add (j * 10) i)
  have hP9 := hP.sub (ws' := [(h0, Sum.inr (5, [Value.int (nI w), Value.int (nI h), Value.ref q1, Value.ref q2, Value.ref q3, Value.ref q4, Value.ref q5, Value.ref q6]))]) [0] rfl
  have hD9 := hD.sub (ws' := [(h0, Sum.inr (5, [Value.int (nI w), Value.int (nI h), Value.ref q1, Value.ref q2, Value.ref q3, Value.ref q4, Value.ref q5, Value.ref q6]))]) [0] (by decide) rfl
  have hK9 := hK.sub (tys' := []) [] rfl
  refine W.widen (k := 0) (n := 0) (by decide) (by decide) ?_
  exact W.iret (v := nI (j * 10 + i)) hx hb hr (fun t ht hW => ⟨⟨(nI (j * 10 + i)), (), rfl, rfl, by rw [ht]; exact hP9, va_K.moved hW.alike hK9, hD9⟩, hS.F ht⟩) hS.2.2 dX6_spotOf_6
theorem dX6_bearing_0 : decode cX6_bearing 0 = .ok (.aload_n 0, 1) := by decide +kernel
theorem dX6_bearing_1 : decode cX6_bearing 1 = .ok (.getfield 9, 3) := by decide +kernel
theorem dX6_bearing_4 : decode cX6_bearing 4 = .ok (.iload_n 1, 1) := by decide +kernel
theorem dX6_bearing_5 : decode cX6_bearing 5 = .ok (.iaload, 1) := by decide +kernel
theorem dX6_bearing_6 : decode cX6_bearing 6 = .ok (.aload_n 0, 1) := by decide +kernel
theorem dX6_bearing_7 : decode cX6_bearing 7 = .ok (.getfield 9, 3) := by decide +kernel
theorem dX6_bearing_10 : decode cX6_bearing 10 = .ok (.iload_n 1, 1) := by decide +kernel
theorem dX6_bearing_11 : decode cX6_bearing 11 = .ok (.iaload, 1) := by decide +kernel
theorem dX6_bearing_12 : decode cX6_bearing 12 = .ok (.imul, 1) := by decide +kernel
theorem dX6_bearing_13 : decode cX6_bearing 13 = .ok (.iload_n 2, 1) := by decide +kernel
theorem dX6_bearing_14 : decode cX6_bearing 14 = .ok (.imul, 1) := by decide +kernel
theorem dX6_bearing_15 : decode cX6_bearing 15 = .ok (.bipush 100, 2) := by decide +kernel
theorem dX6_bearing_17 : decode cX6_bearing 17 = .ok (.idiv, 1) := by decide +kernel
theorem dX6_bearing_18 : decode cX6_bearing 18 = .ok (.ireturn, 1) := by decide +kernel
set_option maxHeartbeats 4000000 in
set_option maxRecDepth 100000 in
theorem c_bearing (l : Launch) (D : va_G) (h0 : Nat) (q1 : Nat) (q2 : Nat) (q3 : Nat) (q4 : Nat) (q5 : Nat) (q6 : Nat) (cy1 : ClassId) (f1 : Nat → Int32) (w : Nat) (h : Nat) (j : Nat) (b : Int32) (hj : j < 100) : cI l yX6_bearing (.code yX6_bearing cX6_bearing 3 (some .int)) ({ frames := 0, cells := 0, slots := 0, locals := 0 }) D [(cy1, .int)] [(h0, Sum.inr (5, [Value.int (nI w), Value.int (nI h), Value.ref q1, Value.ref q2, Value.ref q3, Value.ref q4, Value.ref q5, Value.ref q6])), (q1, Sum.inl (cy1, 100, Sum.inl f1))] xT [Value.ref h0, Value.int (nI j), Value.int b] (S := Unit) (fun r _ => r = f1 j * f1 j * b / 100) (fun _ => []) (fun _ => [(h0, Sum.inr (5, [Value.int (nI w), Value.int (nI h), Value.ref q1, Value.ref q2, Value.ref q3, Value.ref q4, Value.ref q5, Value.ref q6])), (q1, Sum.inl (cy1, 100, Sum.inl f1))]) := by
  intro sz
  refine Met.ofW (cc := cX6_bearing) (maxL := 3) (ret := (some .int)) (by decide) rfl ?_
  intro p e s m args below meth c s₁ B hml hv
  obtain ⟨rfl, hsz, hP, hK, hD0, hX⟩ := hv
  have hx := B.exec
  have hb := B.bytes
  have hr := B.returns
  have hts0 := atoms_spec (ws := .code yX6_bearing cX6_bearing 3 (some .int) :: gw) B.pre
  have hts := fun (w : Cond) (h : w ∈ gw) => hts0 w (List.mem_cons_of_mem _ h)
  have hown : s.vm.findClass RX6 = some m.cls := findClass_of_methodNamed B.named
  have hlocks := B.notSynchronized
  have F : mFix p s m _ c cX6_bearing 3 RX6 := ⟨hx, hb, hml, hown, hts⟩
  subst hsz
  have hD := hD0.self (sz := s.heap.size)
  generalize hAe : va_A [(h0, Sum.inr (5, [Value.int (nI w), Value.int (nI h), Value.ref q1, Value.ref q2, Value.ref q3, Value.ref q4, Value.ref q5, Value.ref q6])), (q1, Sum.inl (cy1, 100, Sum.inl f1))] s.heap.size = A at hD hX ⊢
  have hA : ∀ q : Nat, s.heap.size ≤ q → A q := fun q h => by rw [← hAe]; exact Or.inr h
  have hS : va_S A s.heap s.heap [] := va_S.rf
  have hl := lv_entry ([Value.ref h0, Value.int (nI j), Value.int b]) (n := 3) (Nat.le_of_ble_eq_true rfl)
  rw [lg_entry_eq]
  generalize (lg_sl ([Value.ref h0, Value.int (nI j), Value.int b]) ++ List.replicate (3 - (lg_sl ([Value.ref h0, Value.int (nI j), Value.int b])).length) Slot.unset).toArray = ls at hl ⊢
  have hl : lv_has ls 3 [(0, Value.ref h0), (1, Value.int (nI j)), (2, Value.int b)] := hl
  have hP : va_P D vwCl [(h0, Sum.inr (5, [Value.int (nI w), Value.int (nI h), Value.ref q1, Value.ref q2, Value.ref q3, Value.ref q4, Value.ref q5, Value.ref q6])), (q1, Sum.inl (cy1, 100, Sum.inl f1))] s.heap := hP
  refine lv_aload_n hx hb dX6_bearing_0 rfl (lv_at hl 0 rfl) ?_
  refine va_get (D := D) (ci := 5) (v := Value.ref q1) (C := RX6) (T := TX6) (N := 8) hx hb hts inG_X6 hown hK hP 0 rfl rfl 2 (by decide) (hts _ kw_1_148) (fun _ h9 => h9) rfl dX6_bearing_1 ?_
  refine lv_iload_n hx hb dX6_bearing_4 rfl (lv_at hl 1 rfl) ?_
  refine m_iald hx hb hK hP 1 0 rfl rfl j rfl (by omega) (by decide) dX6_bearing_5 ?_
  refine lv_topi (fun v_1 ev_1 => ?_)
  refine lv_aload_n hx hb dX6_bearing_6 rfl (lv_at hl 0 rfl) ?_
  refine va_get (D := D) (ci := 5) (v := Value.ref q1) (C := RX6) (T := TX6) (N := 8) hx hb hts inG_X6 hown hK hP 0 rfl rfl 2 (by decide) (hts _ kw_1_148) (fun _ h9 => h9) rfl dX6_bearing_7 ?_
  refine lv_iload_n hx hb dX6_bearing_10 rfl (lv_at hl 1 rfl) ?_
  refine m_iald hx hb hK hP 1 0 rfl rfl j rfl (by omega) (by decide) dX6_bearing_11 ?_
  refine lv_topi (fun v_2 ev_2 => ?_)
  refine lv_imul hx hb dX6_bearing_12 ?_
  refine lv_topi (fun z_3 ez_3 => ?_)
  refine lv_iload_n hx hb dX6_bearing_13 rfl (lv_at hl 2 rfl) ?_
  refine lv_imul hx hb dX6_bearing_14 ?_
  refine lv_topi (fun z_4 ez_4 => ?_)
  refine lv_bipush (v := 100) hx hb dX6_bearing_15 (by decide) ?_
  refine lv_idiv hx hb dX6_bearing_17 (by decide) ?_
  refine lv_topi (fun z_5 ez_5 => ?_)
  have hP9 := hP.sub (ws' := [(h0, Sum.inr (5, [Value.int (nI w), Value.int (nI h), Value.ref q1, Value.ref q2, Value.ref q3, Value.ref q4, Value.ref q5, Value.ref q6])), (q1, Sum.inl (cy1, 100, Sum.inl f1))]) [0, 1] rfl
  have hD9 := hD.sub (ws' := [(h0, Sum.inr (5, [Value.int (nI w), Value.int (nI h), Value.ref q1, Value.ref q2, Value.ref q3, Value.ref q4, Value.ref q5, Value.ref q6])), (q1, Sum.inl (cy1, 100, Sum.inl f1))]) [0, 1] (by decide) rfl
  have hK9 := hK.sub (tys' := []) [] rfl
  refine W.widen (k := 0) (n := 0) (by decide) (by decide) ?_
  exact W.iret (v := z_5) hx hb hr (fun t ht hW => ⟨⟨z_5, (), rfl, by simp only [ev_1, ev_2, ez_3, ez_4, ez_5], by rw [ht]; exact hP9, va_K.moved hW.alike hK9, hD9⟩, hS.F ht⟩) hS.2.2 dX6_bearing_18
theorem dX6_makeThick_0 : decode cX6_makeThick 0 = .ok (.aload_n 0, 1) := by decide +kernel
theorem dX6_makeThick_1 : decode cX6_makeThick 1 = .ok (.iload_n 1, 1) := by decide +kernel
theorem dX6_makeThick_2 : decode cX6_makeThick 2 = .ok (.iload_n 2, 1) := by decide +kernel
theorem kw_3_14 : Cond.methodLink RX6 42 yX6_has ∈ gw := gw_t3 (List.mem_of_getElem? (i := 14) (by decide +kernel)) (by decide +kernel)
theorem kw_3_7 : Cond.instanceMethod yX6_has ∈ gw := gw_t3 (List.mem_of_getElem? (i := 7) (by decide +kernel)) (by decide +kernel)
theorem kw_3_8 : Cond.selects RX6 yX6_has yX6_has ∈ gw := gw_t3 (List.mem_of_getElem? (i := 8) (by decide +kernel)) (by decide +kernel)
theorem kw_3_9 : Cond.code yX6_has cX6_has 3 (some .boolean) ∈ gw := gw_t3 (List.mem_of_getElem? (i := 9) (by decide +kernel)) (by decide +kernel)
theorem gk_X6_42 : GoodIn gw (wsV RX6 42 RX6 yX6_has (.code yX6_has cX6_has 3 (some .boolean) :: gw)) ∧ (yX6_has.cls = RX6 ∧ yX6_has.cls ≠ "java/lang/invoke/MethodHandle" ∧ yX6_has.cls ≠ "java/lang/invoke/VarHandle" ∧ (parseMethodDescriptor yX6_has.desc).map (fun d => d.parameters.length) = some 2) := ⟨gi_V kw_3_14 kw_3_7 kw_3_8 kw_1_7 kw_3_9, by decide +kernel⟩
theorem dX6_makeThick_3 : decode cX6_makeThick 3 = .ok (.invokevirtual 42, 3) := by decide +kernel
theorem dX6_makeThick_6 : decode cX6_makeThick 6 = .ok (.ifCond .eq 28, 3) := by decide +kernel
theorem dX6_makeThick_9 : decode cX6_makeThick 9 = .ok (.aload_n 0, 1) := by decide +kernel
theorem dX6_makeThick_10 : decode cX6_makeThick 10 = .ok (.getfield 9, 3) := by decide +kernel
theorem dX6_makeThick_13 : decode cX6_makeThick 13 = .ok (.aload_n 0, 1) := by decide +kernel
theorem dX6_makeThick_14 : decode cX6_makeThick 14 = .ok (.iload_n 1, 1) := by decide +kernel
theorem dX6_makeThick_15 : decode cX6_makeThick 15 = .ok (.iload_n 2, 1) := by decide +kernel
theorem kw_3_15 : Cond.methodLink RX6 46 yX6_spotOf ∈ gw := gw_t3 (List.mem_of_getElem? (i := 15) (by decide +kernel)) (by decide +kernel)
theorem kw_3_16 : Cond.instanceMethod yX6_spotOf ∈ gw := gw_t3 (List.mem_of_getElem? (i := 16) (by decide +kernel)) (by decide +kernel)
theorem kw_3_17 : Cond.selects RX6 yX6_spotOf yX6_spotOf ∈ gw := gw_t3 (List.mem_of_getElem? (i := 17) (by decide +kernel)) (by decide +kernel)
theorem kw_3_18 : Cond.code yX6_spotOf cX6_spotOf 3 (some .int) ∈ gw := gw_t3 (List.mem_of_getElem? (i := 18) (by decide +kernel)) (by decide +kernel)
theorem gk_X6_46 : GoodIn gw (wsV RX6 46 RX6 yX6_spotOf (.code yX6_spotOf cX6_spotOf 3 (some .int) :: gw)) ∧ (yX6_spotOf.cls = RX6 ∧ yX6_spotOf.cls ≠ "java/lang/invoke/MethodHandle" ∧ yX6_spotOf.cls ≠ "java/lang/invoke/VarHandle" ∧ (parseMethodDescriptor yX6_spotOf.desc).map (fun d => d.parameters.length) = some 2) := ⟨gi_V kw_3_15 kw_3_16 kw_3_17 kw_1_7 kw_3_18, by decide +kernel⟩
theorem dX6_makeThick_16 : decode cX6_makeThick 16 = .ok (.invokevirtual 46, 3) := by decide +kernel
theorem dX6_makeThick_19 : decode cX6_makeThick 19 = .ok (.iload_n 3, 1) := by decide +kernel
theorem dX6_makeThick_20 : decode cX6_makeThick 20 = .ok (.iastore, 1) := by decide +kernel
theorem dX6_makeThick_21 : decode cX6_makeThick 21 = .ok (.aload_n 0, 1) := by decide +kernel
theorem dX6_makeThick_22 : decode cX6_makeThick 22 = .ok (.getfield 15, 3) := by decide +kernel
theorem dX6_makeThick_25 : decode cX6_makeThick 25 = .ok (.aload_n 0, 1) := by decide +kernel
theorem dX6_makeThick_26 : decode cX6_makeThick 26 = .ok (.iload_n 1, 1) := by decide +kernel
theorem dX6_makeThick_27 : decode cX6_makeThick 27 = .ok (.iload_n 2, 1) := by decide +kernel
theorem dX6_makeThick_28 : decode cX6_makeThick 28 = .ok (.invokevirtual 46, 3) := by decide +kernel
theorem dX6_makeThick_31 : decode cX6_makeThick 31 = .ok (.iload 4, 2) := by decide +kernel
theorem dX6_makeThick_33 : decode cX6_makeThick 33 = .ok (.iastore, 1) := by decide +kernel
theorem dX6_makeThick_34 : decode cX6_makeThick 34 = .ok (.return_, 1) := by decide +kernel
set_option maxHeartbeats 4000000 in
set_option maxRecDepth 100000 in
theorem c_makeThick (l : Launch) (D : va_G) (h0 : Nat) (q1 : Nat) (q2 : Nat) (q3 : Nat) (q4 : Nat) (q5 : Nat) (q6 : Nat) (cy1 : ClassId) (cy2 : ClassId) (f1 : Nat → Int32) (f2 : Nat → Int32) (w : Nat) (h : Nat) (i : Nat) (j : Nat) (lo : Int32) (hi : Int32) (hw : w < 2 ^ 31) (hh : h < 2 ^ 31) (h1 : i < w) (h2 : j < h) (h3 : w ≤ 10) (h4 : h ≤ 10) : cV l yX6_makeThick (.code yX6_makeThick cX6_makeThick 5 none) ({ frames := 1, cells := 0, slots := 0, locals := 22 }) D [(cy1, .int), (cy2, .int)] [(h0, Sum.inr (5, [Value.int (nI w), Value.int (nI h), Value.ref q1, Value.ref q2, Value.ref q3, Value.ref q4, Value.ref q5, Value.ref q6])), (q1, Sum.inl (cy1, 100, Sum.inl f1)), (q2, Sum.inl (cy2, 100, Sum.inl f2))] xT [Value.ref h0, Value.int (nI i), Value.int (nI j), Value.int lo, Value.int hi] (S := (Nat → Int32) × (Nat → Int32)) (fun u => match u with | (g1, g2) => g1 = upd f1 (j * 10 + i) lo ∧ g2 = upd f2 (j * 10 + i) hi) (fun u => match u with | (g1, g2) => []) (fun u => match u with | (g1, g2) => [(h0, Sum.inr (5, [Value.int (nI w), Value.int (nI h), Value.ref q1, Value.ref q2, Value.ref q3, Value.ref q4, Value.ref q5, Value.ref q6])), (q1, Sum.inl (cy1, 100, Sum.inl g1)), (q2, Sum.inl (cy2, 100, Sum.inl g2))]) := by
  intro sz
  refine Met.ofW (cc := cX6_makeThick) (maxL := 5) (ret := none) (by decide) rfl ?_
  intro p e s m args below meth c s₁ B hml hv
  obtain ⟨rfl, hsz, hP, hK, hD0, hX⟩ := hv
  have hx := B.exec
  have hb := B.bytes
  have hr := B.returns
  have hts0 := atoms_spec (ws := .code yX6_makeThick cX6_makeThick 5 none :: gw) B.pre
  have hts := fun (w : Cond) (h : w ∈ gw) => hts0 w (List.mem_cons_of_mem _ h)
  have hown : s.vm.findClass RX6 = some m.cls := findClass_of_methodNamed B.named
  have hlocks := B.notSynchronized
  have F : mFix p s m _ c cX6_makeThick 5 RX6 := ⟨hx, hb, hml, hown, hts⟩
  subst hsz
  have hD := hD0.self (sz := s.heap.size)
  generalize hAe : va_A [(h0, Sum.inr (5, [Value.int (nI w), Value.int (nI h), Value.ref q1, Value.ref q2, Value.ref q3, Value.ref q4, Value.ref q5, Value.ref q6])), (q1, Sum.inl (cy1, 100, Sum.inl f1)), (q2, Sum.inl (cy2, 100, Sum.inl f2))] s.heap.size = A at hD hX ⊢
  have hA : ∀ q : Nat, s.heap.size ≤ q → A q := fun q h => by rw [← hAe]; exact Or.inr h
  have hS : va_S A s.heap s.heap [] := va_S.rf
  have hl := lv_entry ([Value.ref h0, Value.int (nI i), Value.int (nI j), Value.int lo, Value.int hi]) (n := 5) (Nat.le_of_ble_eq_true rfl)
  rw [lg_entry_eq]
  generalize (lg_sl ([Value.ref h0, Value.int (nI i), Value.int (nI j), Value.int lo, Value.int hi]) ++ List.replicate (5 - (lg_sl ([Value.ref h0, Value.int (nI i), Value.int (nI j), Value.int lo, Value.int hi])).length) Slot.unset).toArray = ls at hl ⊢
  have hl : lv_has ls 5 [(0, Value.ref h0), (1, Value.int (nI i)), (2, Value.int (nI j)), (3, Value.int lo), (4, Value.int hi)] := hl
  have hP : va_P D vwCl [(h0, Sum.inr (5, [Value.int (nI w), Value.int (nI h), Value.ref q1, Value.ref q2, Value.ref q3, Value.ref q4, Value.ref q5, Value.ref q6])), (q1, Sum.inl (cy1, 100, Sum.inl f1)), (q2, Sum.inl (cy2, 100, Sum.inl f2))] s.heap := hP
  refine lv_aload_n hx hb dX6_makeThick_0 rfl (lv_at hl 0 rfl) ?_
  refine lv_iload_n hx hb dX6_makeThick_1 rfl (lv_at hl 1 rfl) ?_
  refine lv_iload_n hx hb dX6_makeThick_2 rfl (lv_at hl 2 rfl) ?_
  refine mc_Vi (rest := []) (wr := [(q1, Sum.inl (cy1, 100, Sum.inl f1)), (q2, Sum.inl (cy2, 100, Sum.inl f2))]) F hK hP hD hS hA (c_has_in l D h0 q1 q2 q3 q4 q5 q6 w h i j (by omega) (by omega) (by omega) (by omega)) ⟨gk_X6_42.1, gk_X6_42.2, Nat.le_of_ble_eq_true rfl, Nat.le_of_ble_eq_true rfl⟩ [0] [1, 2] [] ⟨rfl, rfl, rfl, rfl, by decide⟩ rfl xT_move (fun _ _ _ => trivial) 0 rfl rfl rfl hl.1 rfl (Nat.le_of_ble_eq_true rfl) dX6_makeThick_3 ⟨Nat.le_of_ble_eq_true rfl, Nat.le_of_ble_eq_true rfl⟩ (fun r_1 _ H locs hw hK1 hP hD hS => ?_)
  have hP : va_P D vwCl [(q1, Sum.inl (cy1, 100, Sum.inl f1)), (q2, Sum.inl (cy2, 100, Sum.inl f2)), (h0, Sum.inr (5, [Value.int (nI w), Value.int (nI h), Value.ref q1, Value.ref q2, Value.ref q3, Value.ref q4, Value.ref q5, Value.ref q6]))] H := hP
  have hD : va_D A [(q1, Sum.inl (cy1, 100, Sum.inl f1)), (q2, Sum.inl (cy2, 100, Sum.inl f2)), (h0, Sum.inr (5, [Value.int (nI w), Value.int (nI h), Value.ref q1, Value.ref q2, Value.ref q3, Value.ref q4, Value.ref q5, Value.ref q6]))] := hD
  have hw_2 : r_1 = 1 := hw
  obtain rfl : r_1 = 1 := hw_2
  refine lv_if_eq (tgt := 34) hx hb dX6_makeThick_6 (by decide) (fun c_3 => absurd c_3 (by decide)) (fun c_3 => ?_)
  refine lv_aload_n hx hb dX6_makeThick_9 rfl (lv_at hl 0 rfl) ?_
  refine va_get (D := D) (ci := 5) (v := Value.ref q1) (C := RX6) (T := TX6) (N := 8) hx hb hts inG_X6 hown hK hP 2 rfl rfl 2 (by decide) (hts _ kw_1_148) (fun _ h9 => h9) rfl dX6_makeThick_10 ?_
  refine lv_aload_n hx hb dX6_makeThick_13 rfl (lv_at hl 0 rfl) ?_
  refine lv_iload_n hx hb dX6_makeThick_14 rfl (lv_at hl 1 rfl) ?_
  refine lv_iload_n hx hb dX6_makeThick_15 rfl (lv_at hl 2 rfl) ?_
  refine mc_Vi (rest := [Value.ref q1]) (wr := [(q1, Sum.inl (cy1, 100, Sum.inl f1)), (q2, Sum.inl (cy2, 100, Sum.inl f2))]) F hK hP hD hS hA (c_spotOf l D h0 q1 q2 q3 q4 q5 q6 w h i j ) ⟨gk_X6_46.1, gk_X6_46.2, Nat.le_of_ble_eq_true rfl, Nat.le_of_ble_eq_true rfl⟩ [2] [0, 1] [] ⟨rfl, rfl, rfl, rfl, by decide⟩ rfl xT_move (fun _ _ _ => trivial) 2 rfl rfl rfl hl.1 rfl (Nat.le_of_ble_eq_true rfl) dX6_makeThick_16 ⟨Nat.le_of_ble_eq_true rfl, Nat.le_of_ble_eq_true rfl⟩ (fun r_4 _ H locs hw hK1 hP hD hS => ?_)
  have hP : va_P D vwCl [(q1, Sum.inl (cy1, 100, Sum.inl f1)), (q2, Sum.inl (cy2, 100, Sum.inl f2)), (h0, Sum.inr (5, [Value.int (nI w), Value.int (nI h), Value.ref q1, Value.ref q2, Value.ref q3, Value.ref q4, Value.ref q5, Value.ref q6]))] H := hP
  have hD : va_D A [(q1, Sum.inl (cy1, 100, Sum.inl f1)), (q2, Sum.inl (cy2, 100, Sum.inl f2)), (h0, Sum.inr (5, [Value.int (nI w), Value.int (nI h), Value.ref q1, Value.ref q2, Value.ref q3, Value.ref q4, Value.ref q5, Value.ref q6]))] := hD
  have hw_5 : r_4 = nI (j * 10 + i) := hw
  obtain rfl : r_4 = nI (j * 10 + i) := hw_5
  refine lv_iload_n hx hb dX6_makeThick_19 rfl (lv_at hl 3 rfl) ?_
  refine m_iast hx hb hK hP hD hS 0 0 rfl rfl (j * 10 + i) rfl (by omega) (by decide) dX6_makeThick_20 (fun g_6 H locs eg_6 hP hD hS => ?_)
  have hP : va_P D vwCl [(q1, Sum.inl (cy1, 100, Sum.inl g_6)), (q2, Sum.inl (cy2, 100, Sum.inl f2)), (h0, Sum.inr (5, [Value.int (nI w), Value.int (nI h), Value.ref q1, Value.ref q2, Value.ref q3, Value.ref q4, Value.ref q5, Value.ref q6]))] H := hP
  have hD : va_D A [(q1, Sum.inl (cy1, 100, Sum.inl g_6)), (q2, Sum.inl (cy2, 100, Sum.inl f2)), (h0, Sum.inr (5, [Value.int (nI w), Value.int (nI h), Value.ref q1, Value.ref q2, Value.ref q3, Value.ref q4, Value.ref q5, Value.ref q6]))] := hD
  refine lv_aload_n hx hb dX6_makeThick_21 rfl (lv_at hl 0 rfl) ?_
  refine va_get (D := D) (ci := 5) (v := Value.ref q2) (C := RX6) (T := TX6) (N := 8) hx hb hts inG_X6 hown hK hP 2 rfl rfl 3 (by decide) (hts _ kw_1_150) (fun _ h9 => h9) rfl dX6_makeThick_22 ?_
  refine lv_aload_n hx hb dX6_makeThick_25 rfl (lv_at hl 0 rfl) ?_
  refine lv_iload_n hx hb dX6_makeThick_26 rfl (lv_at hl 1 rfl) ?_
  refine lv_iload_n hx hb dX6_makeThick_27 rfl (lv_at hl 2 rfl) ?_
  refine mc_Vi (rest := [Value.ref q2]) (wr := [(q1, Sum.inl (cy1, 100, Sum.inl g_6)), (q2, Sum.inl (cy2, 100, Sum.inl f2))]) F hK hP hD hS hA (c_spotOf l D h0 q1 q2 q3 q4 q5 q6 w h i j ) ⟨gk_X6_46.1, gk_X6_46.2, Nat.le_of_ble_eq_true rfl, Nat.le_of_ble_eq_true rfl⟩ [2] [0, 1] [] ⟨rfl, rfl, rfl, rfl, by decide⟩ rfl xT_move (fun _ _ _ => trivial) 2 rfl rfl rfl hl.1 rfl (Nat.le_of_ble_eq_true rfl) dX6_makeThick_28 ⟨Nat.le_of_ble_eq_true rfl, Nat.le_of_ble_eq_true rfl⟩ (fun r_7 _ H locs hw hK1 hP hD hS => ?_)
  have hP : va_P D vwCl [(q1, Sum.inl (cy1, 100, Sum.inl g_6)), (q2, Sum.inl (cy2, 100, Sum.inl f2)), (h0, Sum.inr (5, [Value.int (nI w), Value.int (nI h), Value.ref q1, Value.ref q2, Value.ref q3, Value.ref q4, Value.ref q5, Value.ref q6]))] H := hP
  have hD : va_D A [(q1, Sum.inl (cy1, 100, Sum.inl g_6)), (q2, Sum.inl (cy2, 100, Sum.inl f2)), (h0, Sum.inr (5, [Value.int (nI w), Value.int (nI h), Value.ref q1, Value.ref q2, Value.ref q3, Value.ref q4, Value.ref q5, Value.ref q6]))] := hD
  have hw_8 : r_7 = nI (j * 10 + i) := hw
  obtain rfl : r_7 = nI (j * 10 + i) := hw_8
  refine lv_iload hx hb dX6_makeThick_31 (lv_at hl 4 rfl) ?_
  refine m_iast hx hb hK hP hD hS 1 1 rfl rfl (j * 10 + i) rfl (by omega) (by decide) dX6_makeThick_33 (fun g_9 H locs eg_9 hP hD hS => ?_)
  have hP : va_P D vwCl [(q1, Sum.inl (cy1, 100, Sum.inl g_6)), (q2, Sum.inl (cy2, 100, Sum.inl g_9)), (h0, Sum.inr (5, [Value.int (nI w), Value.int (nI h), Value.ref q1, Value.ref q2, Value.ref q3, Value.ref q4, Value.ref q5, Value.ref q6]))] H := hP
  have hD : va_D A [(q1, Sum.inl (cy1, 100, Sum.inl g_6)), (q2, Sum.inl (cy2, 100, Sum.inl g_9)), (h0, Sum.inr (5, [Value.int (nI w), Value.int (nI h), Value.ref q1, Value.ref q2, Value.ref q3, Value.ref q4, Value.ref q5, Value.ref q6]))] := hD
  have hP9 := hP.sub (ws' := [(h0, Sum.inr (5, [Value.int (nI w), Value.int (nI h), Value.ref q1, Value.ref q2, Value.ref q3, Value.ref q4, Value.ref q5, Value.ref q6])), (q1, Sum.inl (cy1, 100, Sum.inl g_6)), (q2, Sum.inl (cy2, 100, Sum.inl g_9))]) [2, 0, 1] rfl
  have hD9 := hD.sub (ws' := [(h0, Sum.inr (5, [Value.int (nI w), Value.int (nI h), Value.ref q1, Value.ref q2, Value.ref q3, Value.ref q4, Value.ref q5, Value.ref q6])), (q1, Sum.inl (cy1, 100, Sum.inl g_6)), (q2, Sum.inl (cy2, 100, Sum.inl g_9))]) [2, 0, 1] (by decide) rfl
  have hK9 := hK.sub (tys' := []) [] rfl
  refine W.widen (k := 0) (n := 0) (by decide) (by decide) ?_
  exact W.vret hx hb hr (fun t ht hW => ⟨⟨(g_6, g_9), rfl, ⟨eg_6, eg_9⟩, by rw [ht]; exact hP9, va_K.moved hW.alike hK9, hD9⟩, hS.F ht⟩) hS.2.2 dX6_makeThick_34
theorem dX6_withinBounds_0 : decode cX6_withinBounds 0 = .ok (.iconst 0, 1) := by decide +kernel
theorem dX6_withinBounds_1 : decode cX6_withinBounds 1 = .ok (.bipush 99, 2) := by decide +kernel
theorem dX6_withinBounds_3 : decode cX6_withinBounds 3 = .ok (.iload_n 0, 1) := by decide +kernel
theorem kw_3_166 : Cond.methodLink RX6 61 Lib.Math.min.name ∈ gw := gw_t3 (List.mem_of_getElem? (i := 166) (by decide +kernel)) (by decide +kernel)
theorem kw_2_129 : Cond.static Lib.Math.min.name ∈ gw := gw_t2 (List.mem_of_getElem? (i := 129) (by decide +kernel)) (by decide +kernel)
theorem kw_1_12 : Cond.initialized RJ9 ∈ gw := gw_t1 (List.mem_of_getElem? (i := 12) (by decide +kernel)) (by decide +kernel)
theorem kw_2_130 : Cond.code Lib.Math.min.name Lib.Math.min.code 2 (some .int) ∈ gw := gw_t2 (List.mem_of_getElem? (i := 130) (by decide +kernel)) (by decide +kernel)
theorem dX6_withinBounds_4 : decode cX6_withinBounds 4 = .ok (.invokestatic 61, 3) := by decide +kernel
theorem kw_3_167 : Cond.methodLink RX6 66 Lib.Math.max.name ∈ gw := gw_t3 (List.mem_of_getElem? (i := 167) (by decide +kernel)) (by decide +kernel)
theorem kw_3_83 : Cond.static Lib.Math.max.name ∈ gw := gw_t3 (List.mem_of_getElem? (i := 83) (by decide +kernel)) (by decide +kernel)
theorem kw_3_84 : Cond.code Lib.Math.max.name Lib.Math.max.code 2 (some .int) ∈ gw := gw_t3 (List.mem_of_getElem? (i := 84) (by decide +kernel)) (by decide +kernel)
theorem dX6_withinBounds_7 : decode cX6_withinBounds 7 = .ok (.invokestatic 66, 3) := by decide +kernel
theorem dX6_withinBounds_10 : decode cX6_withinBounds 10 = .ok (.ireturn, 1) := by decide +kernel
set_option maxHeartbeats 4000000 in
set_option maxRecDepth 100000 in
theorem c_within (l : Launch) (D : va_G) (t1 : Int32) : cI l yX6_withinBounds (.code yX6_withinBounds cX6_withinBounds 1 (some .int)) ({ frames := 1, cells := 0, slots := 0, locals := 60 }) D [] [] xT [Value.int t1] (S := Unit) (fun r _ => r = (if 0 < (if t1 < 99 then t1 else 99) then (if t1 < 99 then t1 else 99) else 0)) (fun _ => []) (fun _ => []) := by
  intro sz
  refine Met.ofW (cc := cX6_withinBounds) (maxL := 1) (ret := (some .int)) (by decide) rfl ?_
  intro p e s m args below meth c s₁ B hml hv
  obtain ⟨rfl, hsz, hP, hK, hD0, hX⟩ := hv
  have hx := B.exec
  have hb := B.bytes
  have hr := B.returns
  have hts0 := atoms_spec (ws := .code yX6_withinBounds cX6_withinBounds 1 (some .int) :: gw) B.pre
  have hts := fun (w : Cond) (h : w ∈ gw) => hts0 w (List.mem_cons_of_mem _ h)
  have hown : s.vm.findClass RX6 = some m.cls := findClass_of_methodNamed B.named
  have hlocks := B.notSynchronized
  have F : mFix p s m _ c cX6_withinBounds 1 RX6 := ⟨hx, hb, hml, hown, hts⟩
  subst hsz
  have hD := hD0.self (sz := s.heap.size)
  generalize hAe : va_A [] s.heap.size = A at hD hX ⊢
  have hA : ∀ q : Nat, s.heap.size ≤ q → A q := fun q h => by rw [← hAe]; exact Or.inr h
  have hS : va_S A s.heap s.heap [] := va_S.rf
  have hl := lv_entry ([Value.int t1]) (n := 1) (Nat.le_of_ble_eq_true rfl)
  rw [lg_entry_eq]
  generalize (lg_sl ([Value.int t1]) ++ List.replicate (1 - (lg_sl ([Value.int t1])).length) Slot.unset).toArray = ls at hl ⊢
  have hl : lv_has ls 1 [(0, Value.int t1)] := hl
  have hP : va_P D vwCl [] s.heap := hP
  refine lv_iconst (v := 0) hx hb dX6_withinBounds_0 (by decide) ?_
  refine lv_bipush (v := 99) hx hb dX6_withinBounds_1 (by decide) ?_
  refine lv_iload_n hx hb dX6_withinBounds_3 rfl (lv_at hl 0 rfl) ?_
  refine va_mmin hx hb (by rw [hml]; exact hl.1.symm) hown (hts _ kw_3_166) (hts _ kw_2_129) (hts _ kw_1_12) (hts _ kw_2_130) (Nat.le_of_ble_eq_true rfl) (Nat.le_of_ble_eq_true rfl) (Nat.le_of_ble_eq_true rfl) (Nat.le_of_ble_eq_true rfl) dX6_withinBounds_4 ?_
  refine lv_topi (fun z_1 ez_1 => ?_)
  refine va_mmax hx hb (by rw [hml]; exact hl.1.symm) hown (hts _ kw_3_167) (hts _ kw_3_83) (hts _ kw_1_12) (hts _ kw_3_84) (Nat.le_of_ble_eq_true rfl) (Nat.le_of_ble_eq_true rfl) (Nat.le_of_ble_eq_true rfl) (Nat.le_of_ble_eq_true rfl) dX6_withinBounds_7 ?_
  refine lv_topi (fun z_2 ez_2 => ?_)
  have hP9 := hP.sub (ws' := []) [] rfl
  have hD9 := hD.sub (ws' := []) [] (by decide) rfl
  have hK9 := hK.sub (tys' := []) [] rfl
  refine W.widen (k := 0) (n := 0) (by decide) (by decide) ?_
  exact W.iret (v := z_2) hx hb hr (fun t ht hW => ⟨⟨z_2, (), rfl, by simp only [ez_1, ez_2], by rw [ht]; exact hP9, va_K.moved hW.alike hK9, hD9⟩, hS.F ht⟩) hS.2.2 dX6_withinBounds_10
theorem dX6_isFirm_0 : decode cX6_isFirm 0 = .ok (.aload_n 0, 1) := by decide +kernel
theorem dX6_isFirm_1 : decode cX6_isFirm 1 = .ok (.iload_n 1, 1) := by decide +kernel
theorem dX6_isFirm_2 : decode cX6_isFirm 2 = .ok (.iload_n 2, 1) := by decide +kernel
theorem dX6_isFirm_3 : decode cX6_isFirm 3 = .ok (.invokevirtual 42, 3) := by decide +kernel
theorem dX6_isFirm_6 : decode cX6_isFirm 6 = .ok (.ifCond .ne 5, 3) := by decide +kernel
theorem dX6_isFirm_9 : decode cX6_isFirm 9 = .ok (.iconst 0, 1) := by decide +kernel
theorem dX6_isFirm_10 : decode cX6_isFirm 10 = .ok (.ireturn, 1) := by decide +kernel
theorem dX6_isFirm_11 : decode cX6_isFirm 11 = .ok (.aload_n 0, 1) := by decide +kernel
theorem dX6_isFirm_12 : decode cX6_isFirm 12 = .ok (.iload_n 1, 1) := by decide +kernel
theorem dX6_isFirm_13 : decode cX6_isFirm 13 = .ok (.iload_n 2, 1) := by decide +kernel
theorem dX6_isFirm_14 : decode cX6_isFirm 14 = .ok (.invokevirtual 46, 3) := by decide +kernel
theorem dX6_isFirm_17 : decode cX6_isFirm 17 = .ok (.istore_n 3, 1) := by decide +kernel
theorem dX6_isFirm_18 : decode cX6_isFirm 18 = .ok (.aload_n 0, 1) := by decide +kernel
theorem dX6_isFirm_19 : decode cX6_isFirm 19 = .ok (.getfield 9, 3) := by decide +kernel
theorem dX6_isFirm_22 : decode cX6_isFirm 22 = .ok (.iload_n 3, 1) := by decide +kernel
theorem dX6_isFirm_23 : decode cX6_isFirm 23 = .ok (.iaload, 1) := by decide +kernel
theorem dX6_isFirm_24 : decode cX6_isFirm 24 = .ok (.ifCond .le 16, 3) := by decide +kernel
theorem dX6_isFirm_40 : decode cX6_isFirm 40 = .ok (.iconst 0, 1) := by decide +kernel
theorem dX6_isFirm_41 : decode cX6_isFirm 41 = .ok (.ireturn, 1) := by decide +kernel
theorem dX6_isFirm_27 : decode cX6_isFirm 27 = .ok (.aload_n 0, 1) := by decide +kernel
theorem dX6_isFirm_28 : decode cX6_isFirm 28 = .ok (.getfield 24, 3) := by decide +kernel
theorem dX6_isFirm_31 : decode cX6_isFirm 31 = .ok (.iload_n 3, 1) := by decide +kernel
theorem dX6_isFirm_32 : decode cX6_isFirm 32 = .ok (.baload, 1) := by decide +kernel
theorem dX6_isFirm_33 : decode cX6_isFirm 33 = .ok (.ifCond .ne 7, 3) := by decide +kernel
theorem dX6_isFirm_36 : decode cX6_isFirm 36 = .ok (.iconst 1, 1) := by decide +kernel
theorem dX6_isFirm_37 : decode cX6_isFirm 37 = .ok (.goto 4, 3) := by decide +kernel
set_option maxHeartbeats 4000000 in
set_option maxRecDepth 100000 in
theorem c_isFirm (l : Launch) (D : va_G) (h0 : Nat) (q1 : Nat) (q2 : Nat) (q3 : Nat) (q4 : Nat) (q5 : Nat) (q6 : Nat) (cy1 : ClassId) (cy5 : ClassId) (f1 : Nat → Int32) (f5 : Nat → Int32) (w : Nat) (h : Nat) (x : Int32) (y : Int32) (h3 : w ≤ 10) (h4 : h ≤ 10) : cI l yX6_isFirm (.code yX6_isFirm cX6_isFirm 4 (some .boolean)) ({ frames := 1, cells := 0, slots := 0, locals := 22 }) D [(cy1, .int), (cy5, .boolean)] [(h0, Sum.inr (5, [Value.int (nI w), Value.int (nI h), Value.ref q1, Value.ref q2, Value.ref q3, Value.ref q4, Value.ref q5, Value.ref q6])), (q1, Sum.inl (cy1, 100, Sum.inl f1)), (q5, Sum.inl (cy5, 100, Sum.inl f5))] xT [Value.ref h0, Value.int x, Value.int y] (S := Unit) (fun r _ => (r = 0 ∨ r = 1) ∧ (¬ r = 0 → ¬ (x < 0 ∨ ¬ x < nI w ∨ y < 0 ∨ ¬ y < nI h))) (fun _ => []) (fun _ => [(h0, Sum.inr (5, [Value.int (nI w), Value.int (nI h), Value.ref q1, Value.ref q2, Value.ref q3, Value.ref q4, Value.ref q5, Value.ref q6])), (q1, Sum.inl (cy1, 100, Sum.inl f1)), (q5, Sum.inl (cy5, 100, Sum.inl f5))]) := by
  intro sz
  refine Met.ofW (cc := cX6_isFirm) (maxL := 4) (ret := (some .boolean)) (by decide) rfl ?_
  intro p e s m args below meth c s₁ B hml hv
  obtain ⟨rfl, hsz, hP, hK, hD0, hX⟩ := hv
  have hx := B.exec
  have hb := B.bytes
  have hr := B.returns
  have hts0 := atoms_spec (ws := .code yX6_isFirm cX6_isFirm 4 (some .boolean) :: gw) B.pre
  have hts := fun (w : Cond) (h : w ∈ gw) => hts0 w (List.mem_cons_of_mem _ h)
  have hown : s.vm.findClass RX6 = some m.cls := findClass_of_methodNamed B.named
  have hlocks := B.notSynchronized
  have F : mFix p s m _ c cX6_isFirm 4 RX6 := ⟨hx, hb, hml, hown, hts⟩
  subst hsz
  have hD := hD0.self (sz := s.heap.size)
  generalize hAe : va_A [(h0, Sum.inr (5, [Value.int (nI w), Value.int (nI h), Value.ref q1, Value.ref q2, Value.ref q3, Value.ref q4, Value.ref q5, Value.ref q6])), (q1, Sum.inl (cy1, 100, Sum.inl f1)), (q5, Sum.inl (cy5, 100, Sum.inl f5))] s.heap.size = A at hD hX ⊢
  have hA : ∀ q : Nat, s.heap.size ≤ q → A q := fun q h => by rw [← hAe]; exact Or.inr h
  have hS : va_S A s.heap s.heap [] := va_S.rf
  have hl := lv_entry ([Value.ref h0, Value.int x, Value.int y]) (n := 4) (Nat.le_of_ble_eq_true rfl)
  rw [lg_entry_eq]
  generalize (lg_sl ([Value.ref h0, Value.int x, Value.int y]) ++ List.replicate (4 - (lg_sl ([Value.ref h0, Value.int x, Value.int y])).length) Slot.unset).toArray = ls at hl ⊢
  have hl : lv_has ls 4 [(0, Value.ref h0), (1, Value.int x), (2, Value.int y)] := hl
  have hP : va_P D vwCl [(h0, Sum.inr (5, [Value.int (nI w), Value.int (nI h), Value.ref q1, Value.ref q2, Value.ref q3, Value.ref q4, Value.ref q5, Value.ref q6])), (q1, Sum.inl (cy1, 100, Sum.inl f1)), (q5, Sum.inl (cy5, 100, Sum.inl f5))] s.heap := hP
  refine lv_aload_n hx hb dX6_isFirm_0 rfl (lv_at hl 0 rfl) ?_
  refine lv_iload_n hx hb dX6_isFirm_1 rfl (lv_at hl 1 rfl) ?_
  refine lv_iload_n hx hb dX6_isFirm_2 rfl (lv_at hl 2 rfl) ?_
  refine mc_Vi (rest := []) (wr := [(q1, Sum.inl (cy1, 100, Sum.inl f1)), (q5, Sum.inl (cy5, 100, Sum.inl f5))]) F hK hP hD hS hA (c_has_any l D h0 q1 q2 q3 q4 q5 q6 w h x y (by omega) (by omega)) ⟨gk_X6_42.1, gk_X6_42.2, Nat.le_of_ble_eq_true rfl, Nat.le_of_ble_eq_true rfl⟩ [0] [1, 2] [] ⟨rfl, rfl, rfl, rfl, by decide⟩ rfl xT_move (fun _ _ _ => trivial) 0 rfl rfl rfl hl.1 rfl (Nat.le_of_ble_eq_true rfl) dX6_isFirm_3 ⟨Nat.le_of_ble_eq_true rfl, Nat.le_of_ble_eq_true rfl⟩ (fun r_1 _ H locs hw hK1 hP hD hS => ?_)
  have hP : va_P D vwCl [(q1, Sum.inl (cy1, 100, Sum.inl f1)), (q5, Sum.inl (cy5, 100, Sum.inl f5)), (h0, Sum.inr (5, [Value.int (nI w), Value.int (nI h), Value.ref q1, Value.ref q2, Value.ref q3, Value.ref q4, Value.ref q5, Value.ref q6]))] H := hP
  have hD : va_D A [(q1, Sum.inl (cy1, 100, Sum.inl f1)), (q5, Sum.inl (cy5, 100, Sum.inl f5)), (h0, Sum.inr (5, [Value.int (nI w), Value.int (nI h), Value.ref q1, Value.ref q2, Value.ref q3, Value.ref q4, Value.ref q5, Value.ref q6]))] := hD
  have hw_2 : r_1 = (if (x < 0 ∨ ¬ x < nI w ∨ y < 0 ∨ ¬ y < nI h) then 0 else 1) := hw
  by_cases ho_3 : (x < 0 ∨ ¬ x < nI w ∨ y < 0 ∨ ¬ y < nI h)
  · skip
    obtain rfl : r_1 = 0 := by rw [hw_2, if_pos ho_3]
    refine lv_if_ne (tgt := 11) hx hb dX6_isFirm_6 (by decide) (fun c_4 => absurd c_4 (by decide)) (fun c_4 => ?_)
    refine lv_iconst (v := 0) hx hb dX6_isFirm_9 (by decide) ?_
    have hP9 := hP.sub (ws' := [(h0, Sum.inr (5, [Value.int (nI w), Value.int (nI h), Value.ref q1, Value.ref q2, Value.ref q3, Value.ref q4, Value.ref q5, Value.ref q6])), (q1, Sum.inl (cy1, 100, Sum.inl f1)), (q5, Sum.inl (cy5, 100, Sum.inl f5))]) [2, 0, 1] rfl
    have hD9 := hD.sub (ws' := [(h0, Sum.inr (5, [Value.int (nI w), Value.int (nI h), Value.ref q1, Value.ref q2, Value.ref q3, Value.ref q4, Value.ref q5, Value.ref q6])), (q1, Sum.inl (cy1, 100, Sum.inl f1)), (q5, Sum.inl (cy5, 100, Sum.inl f5))]) [2, 0, 1] (by decide) rfl
    have hK9 := hK.sub (tys' := []) [] rfl
    refine W.widen (k := 0) (n := 0) (by decide) (by decide) ?_
    exact W.zret (v := 0) hx hb hr rfl (fun t ht hW => ⟨⟨0, (), rfl, ⟨Or.inl rfl, fun h => absurd rfl h⟩, by rw [ht]; exact hP9, va_K.moved hW.alike hK9, hD9⟩, hS.F ht⟩) hS.2.2 dX6_isFirm_10
  · skip
    obtain rfl : r_1 = 1 := by rw [hw_2, if_neg ho_3]
    obtain ⟨i_5, hi_5, ei_5⟩ : ∃ j : Nat, j < w ∧ x = nI j := n_lt (fun q => ho_3 (Or.inl q)) (fun q => ho_3 (Or.inr (Or.inl (Int32.not_lt.mpr q)))) (by omega)
    obtain ⟨j_6, hj_6, ej_6⟩ : ∃ j : Nat, j < h ∧ y = nI j := n_lt (fun q => ho_3 (Or.inr (Or.inr (Or.inl q)))) (fun q => ho_3 (Or.inr (Or.inr (Or.inr (Int32.not_lt.mpr q))))) (by omega)
    subst ei_5
    subst ej_6
    have hl : lv_has ls 4 [(0, Value.ref h0), (1, Value.int (nI i_5)), (2, Value.int (nI j_6))] := hl
    refine lv_if_ne (tgt := 11) hx hb dX6_isFirm_6 (by decide) (fun c_7 => ?_) (fun c_7 => absurd c_7 (by decide))
    refine lv_aload_n hx hb dX6_isFirm_11 rfl (lv_at hl 0 rfl) ?_
    refine lv_iload_n hx hb dX6_isFirm_12 rfl (lv_at hl 1 rfl) ?_
    refine lv_iload_n hx hb dX6_isFirm_13 rfl (lv_at hl 2 rfl) ?_
    refine mc_Vi (rest := []) (wr := [(q1, Sum.inl (cy1, 100, Sum.inl f1)), (q5, Sum.inl (cy5, 100, Sum.inl f5))]) F hK hP hD hS hA (c_spotOf l D h0 q1 q2 q3 q4 q5 q6 w h i_5 j_6 ) ⟨gk_X6_46.1, gk_X6_46.2, Nat.le_of_ble_eq_true rfl, Nat.le_of_ble_eq_true rfl⟩ [2] [0, 1] [] ⟨rfl, rfl, rfl, rfl, by decide⟩ rfl xT_move (fun _ _ _ => trivial) 2 rfl rfl rfl hl.1 rfl (Nat.le_of_ble_eq_true rfl) dX6_isFirm_14 ⟨Nat.le_of_ble_eq_true rfl, Nat.le_of_ble_eq_true rfl⟩ (fun r_8 _ H locs hw hK1 hP hD hS => ?_)
    have hP : va_P D vwCl [(q1, Sum.inl (cy1, 100, Sum.inl f1)), (q5, Sum.inl (cy5, 100, Sum.inl f5)), (h0, Sum.inr (5, [Value.int (nI w), Value.int (nI h), Value.ref q1, Value.ref q2, Value.ref q3, Value.ref q4, Value.ref q5, Value.ref q6]))] H := hP
    have hD : va_D A [(q1, Sum.inl (cy1, 100, Sum.inl f1)), (q5, Sum.inl (cy5, 100, Sum.inl f5)), (h0, Sum.inr (5, [Value.int (nI w), Value.int (nI h), Value.ref q1, Value.ref q2, Value.ref q3, Value.ref q4, Value.ref q5, Value.ref q6]))] := hD
    have hw_9 : r_8 = nI (j_6 * 10 + i_5) := hw
    obtain rfl : r_8 = nI (j_6 * 10 + i_5) := hw_9
    refine lv_istore_n (lv' := [(3, Value.int (nI (j_6 * 10 + i_5))), (0, Value.ref h0), (1, Value.int (nI i_5)), (2, Value.int (nI j_6))]) hx hb dX6_isFirm_17 rfl hl (by decide) rfl (fun ls hl => ?_)
    refine lv_aload_n hx hb dX6_isFirm_18 rfl (lv_at hl 1 rfl) ?_
    refine va_get (D := D) (ci := 5) (v := Value.ref q1) (C := RX6) (T := TX6) (N := 8) hx hb hts inG_X6 hown hK hP 2 rfl rfl 2 (by decide) (hts _ kw_1_148) (fun _ h9 => h9) rfl dX6_isFirm_19 ?_
    refine lv_iload_n hx hb dX6_isFirm_22 rfl (lv_at hl 0 rfl) ?_
    refine m_iald hx hb hK hP 0 0 rfl rfl (j_6 * 10 + i_5) rfl (by omega) (by decide) dX6_isFirm_23 ?_
    refine lv_topi (fun v_10 ev_10 => ?_)
    refine lv_if_le (tgt := 40) hx hb dX6_isFirm_24 (by decide) (fun c_11 => ?_) (fun c_11 => ?_)
    · skip
      have c_11 := Int32.not_lt.mpr c_11
      refine lv_iconst (v := 0) hx hb dX6_isFirm_40 (by decide) ?_
      have hP9 := hP.sub (ws' := [(h0, Sum.inr (5, [Value.int (nI w), Value.int (nI h), Value.ref q1, Value.ref q2, Value.ref q3, Value.ref q4, Value.ref q5, Value.ref q6])), (q1, Sum.inl (cy1, 100, Sum.inl f1)), (q5, Sum.inl (cy5, 100, Sum.inl f5))]) [2, 0, 1] rfl
      have hD9 := hD.sub (ws' := [(h0, Sum.inr (5, [Value.int (nI w), Value.int (nI h), Value.ref q1, Value.ref q2, Value.ref q3, Value.ref q4, Value.ref q5, Value.ref q6])), (q1, Sum.inl (cy1, 100, Sum.inl f1)), (q5, Sum.inl (cy5, 100, Sum.inl f5))]) [2, 0, 1] (by decide) rfl
      have hK9 := hK.sub (tys' := []) [] rfl
      refine W.widen (k := 0) (n := 0) (by decide) (by decide) ?_
      exact W.zret (v := 0) hx hb hr rfl (fun t ht hW => ⟨⟨0, (), rfl, ⟨Or.inl rfl, fun h => absurd rfl h⟩, by rw [ht]; exact hP9, va_K.moved hW.alike hK9, hD9⟩, hS.F ht⟩) hS.2.2 dX6_isFirm_41
    · skip
      have c_11 := Int32.not_le.mp c_11
      refine lv_aload_n hx hb dX6_isFirm_27 rfl (lv_at hl 1 rfl) ?_
      refine va_get (D := D) (ci := 5) (v := Value.ref q5) (C := RX6) (T := TX6) (N := 8) hx hb hts inG_X6 hown hK hP 2 rfl rfl 6 (by decide) (hts _ kw_1_157) (fun _ h9 => h9) rfl dX6_isFirm_28 ?_
      refine lv_iload_n hx hb dX6_isFirm_31 rfl (lv_at hl 0 rfl) ?_
      refine m_zald hx hb hK hP 1 1 rfl rfl (j_6 * 10 + i_5) rfl (by omega) (by decide) dX6_isFirm_32 ?_
      refine lv_topi (fun v_12 ev_12 => ?_)
      refine lv_if_ne (tgt := 40) hx hb dX6_isFirm_33 (by decide) (fun c_13 => ?_) (fun c_13 => ?_)
      · skip
        refine lv_iconst (v := 0) hx hb dX6_isFirm_40 (by decide) ?_
        have hP9 := hP.sub (ws' := [(h0, Sum.inr (5, [Value.int (nI w), Value.int (nI h), Value.ref q1, Value.ref q2, Value.ref q3, Value.ref q4, Value.ref q5, Value.ref q6])), (q1, Sum.inl (cy1, 100, Sum.inl f1)), (q5, Sum.inl (cy5, 100, Sum.inl f5))]) [2, 0, 1] rfl
        have hD9 := hD.sub (ws' := [(h0, Sum.inr (5, [Value.int (nI w), Value.int (nI h), Value.ref q1, Value.ref q2, Value.ref q3, Value.ref q4, Value.ref q5, Value.ref q6])), (q1, Sum.inl (cy1, 100, Sum.inl f1)), (q5, Sum.inl (cy5, 100, Sum.inl f5))]) [2, 0, 1] (by decide) rfl
        have hK9 := hK.sub (tys' := []) [] rfl
        refine W.widen (k := 0) (n := 0) (by decide) (by decide) ?_
        exact W.zret (v := 0) hx hb hr rfl (fun t ht hW => ⟨⟨0, (), rfl, ⟨Or.inl rfl, fun h => absurd rfl h⟩, by rw [ht]; exact hP9, va_K.moved hW.alike hK9, hD9⟩, hS.F ht⟩) hS.2.2 dX6_isFirm_41
      · skip
        refine lv_iconst (v := 1) hx hb dX6_isFirm_36 (by decide) ?_
        refine lv_goto (tgt := 41) hx hb dX6_isFirm_37 (by decide) ?_
        have hP9 := hP.sub (ws' := [(h0, Sum.inr (5, [Value.int (nI w), Value.int (nI h), Value.ref q1, Value.ref q2, Value.ref q3, Value.ref q4, Value.ref q5, Value.ref q6])), (q1, Sum.inl (cy1, 100, Sum.inl f1)), (q5, Sum.inl (cy5, 100, Sum.inl f5))]) [2, 0, 1] rfl
        have hD9 := hD.sub (ws' := [(h0, Sum.inr (5, [Value.int (nI w), Value.int (nI h), Value.ref q1, Value.ref q2, Value.ref q3, Value.ref q4, Value.ref q5, Value.ref q6])), (q1, Sum.inl (cy1, 100, Sum.inl f1)), (q5, Sum.inl (cy5, 100, Sum.inl f5))]) [2, 0, 1] (by decide) rfl
        have hK9 := hK.sub (tys' := []) [] rfl
        refine W.widen (k := 0) (n := 0) (by decide) (by decide) ?_
        exact W.zret (v := 1) hx hb hr rfl (fun t ht hW => ⟨⟨1, (), rfl, ⟨Or.inr rfl, fun _ => ho_3⟩, by rw [ht]; exact hP9, va_K.moved hW.alike hK9, hD9⟩, hS.F ht⟩) hS.2.2 dX6_isFirm_41
theorem dX6_isOpen_0 : decode cX6_isOpen 0 = .ok (.aload_n 0, 1) := by decide +kernel
theorem dX6_isOpen_1 : decode cX6_isOpen 1 = .ok (.iload_n 1, 1) := by decide +kernel
theorem dX6_isOpen_2 : decode cX6_isOpen 2 = .ok (.iload_n 2, 1) := by decide +kernel
theorem kw_3_43 : Cond.methodLink RX6 50 yX6_isFirm ∈ gw := gw_t3 (List.mem_of_getElem? (i := 43) (by decide +kernel)) (by decide +kernel)
theorem kw_3_44 : Cond.instanceMethod yX6_isFirm ∈ gw := gw_t3 (List.mem_of_getElem? (i := 44) (by decide +kernel)) (by decide +kernel)
theorem kw_3_45 : Cond.selects RX6 yX6_isFirm yX6_isFirm ∈ gw := gw_t3 (List.mem_of_getElem? (i := 45) (by decide +kernel)) (by decide +kernel)
theorem kw_3_46 : Cond.code yX6_isFirm cX6_isFirm 4 (some .boolean) ∈ gw := gw_t3 (List.mem_of_getElem? (i := 46) (by decide +kernel)) (by decide +kernel)
theorem gk_X6_50 : GoodIn gw (wsV RX6 50 RX6 yX6_isFirm (.code yX6_isFirm cX6_isFirm 4 (some .boolean) :: gw)) ∧ (yX6_isFirm.cls = RX6 ∧ yX6_isFirm.cls ≠ "java/lang/invoke/MethodHandle" ∧ yX6_isFirm.cls ≠ "java/lang/invoke/VarHandle" ∧ (parseMethodDescriptor yX6_isFirm.desc).map (fun d => d.parameters.length) = some 2) := ⟨gi_V kw_3_43 kw_3_44 kw_3_45 kw_1_7 kw_3_46, by decide +kernel⟩
theorem dX6_isOpen_3 : decode cX6_isOpen 3 = .ok (.invokevirtual 50, 3) := by decide +kernel
theorem dX6_isOpen_6 : decode cX6_isOpen 6 = .ok (.ifCond .eq 22, 3) := by decide +kernel
theorem dX6_isOpen_28 : decode cX6_isOpen 28 = .ok (.iconst 0, 1) := by decide +kernel
theorem dX6_isOpen_29 : decode cX6_isOpen 29 = .ok (.ireturn, 1) := by decide +kernel
theorem dX6_isOpen_9 : decode cX6_isOpen 9 = .ok (.aload_n 0, 1) := by decide +kernel
theorem dX6_isOpen_10 : decode cX6_isOpen 10 = .ok (.getfield 21, 3) := by decide +kernel
theorem dX6_isOpen_13 : decode cX6_isOpen 13 = .ok (.aload_n 0, 1) := by decide +kernel
theorem dX6_isOpen_14 : decode cX6_isOpen 14 = .ok (.iload_n 1, 1) := by decide +kernel
theorem dX6_isOpen_15 : decode cX6_isOpen 15 = .ok (.iload_n 2, 1) := by decide +kernel
theorem dX6_isOpen_16 : decode cX6_isOpen 16 = .ok (.invokevirtual 46, 3) := by decide +kernel
theorem dX6_isOpen_19 : decode cX6_isOpen 19 = .ok (.iaload, 1) := by decide +kernel
theorem dX6_isOpen_20 : decode cX6_isOpen 20 = .ok (.iconst (-1), 1) := by decide +kernel
theorem dX6_isOpen_21 : decode cX6_isOpen 21 = .ok (.if_icmp .ne 7, 3) := by decide +kernel
theorem dX6_isOpen_24 : decode cX6_isOpen 24 = .ok (.iconst 1, 1) := by decide +kernel
theorem dX6_isOpen_25 : decode cX6_isOpen 25 = .ok (.goto 4, 3) := by decide +kernel
theorem dX6_guestAt_0 : decode cX6_guestAt 0 = .ok (.aload_n 0, 1) := by decide +kernel
theorem dX6_guestAt_1 : decode cX6_guestAt 1 = .ok (.iload_n 1, 1) := by decide +kernel
theorem dX6_guestAt_2 : decode cX6_guestAt 2 = .ok (.iload_n 2, 1) := by decide +kernel
theorem dX6_guestAt_3 : decode cX6_guestAt 3 = .ok (.invokevirtual 42, 3) := by decide +kernel
theorem dX6_guestAt_6 : decode cX6_guestAt 6 = .ok (.ifCond .eq 17, 3) := by decide +kernel
theorem dX6_guestAt_23 : decode cX6_guestAt 23 = .ok (.iconst (-1), 1) := by decide +kernel
theorem dX6_guestAt_24 : decode cX6_guestAt 24 = .ok (.ireturn, 1) := by decide +kernel
theorem dX6_guestAt_9 : decode cX6_guestAt 9 = .ok (.aload_n 0, 1) := by decide +kernel
theorem dX6_guestAt_10 : decode cX6_guestAt 10 = .ok (.getfield 21, 3) := by decide +kernel
theorem dX6_guestAt_13 : decode cX6_guestAt 13 = .ok (.aload_n 0, 1) := by decide +kernel
theorem dX6_guestAt_14 : decode cX6_guestAt 14 = .ok (.iload_n 1, 1) := by decide +kernel
theorem dX6_guestAt_15 : decode cX6_guestAt 15 = .ok (.iload_n 2, 1) := by decide +kernel
theorem dX6_guestAt_16 : decode cX6_guestAt 16 = .ok (.invokevirtual 46, 3) := by decide +kernel
theorem dX6_guestAt_19 : decode cX6_guestAt 19 = .ok (.iaload, 1) := by decide +kernel
theorem dX6_guestAt_20 : decode cX6_guestAt 20 = .ok (.goto 4, 3) := by decide +kernel
theorem dX6_thicken_0 : decode cX6_thicken 0 = .ok (.aload_n 0, 1) := by decide +kernel
theorem dX6_thicken_1 : decode cX6_thicken 1 = .ok (.iload_n 1, 1) := by decide +kernel
theorem dX6_thicken_2 : decode cX6_thicken 2 = .ok (.iload_n 2, 1) := by decide +kernel
theorem dX6_thicken_3 : decode cX6_thicken 3 = .ok (.invokevirtual 42, 3) := by decide +kernel
theorem dX6_thicken_6 : decode cX6_thicken 6 = .ok (.ifCond .eq 41, 3) := by decide +kernel
theorem dX6_thicken_9 : decode cX6_thicken 9 = .ok (.aload_n 0, 1) := by decide +kernel
theorem dX6_thicken_10 : decode cX6_thicken 10 = .ok (.iload_n 1, 1) := by decide +kernel
theorem dX6_thicken_11 : decode cX6_thicken 11 = .ok (.iload_n 2, 1) := by decide +kernel
theorem dX6_thicken_12 : decode cX6_thicken 12 = .ok (.invokevirtual 46, 3) := by decide +kernel
theorem dX6_thicken_15 : decode cX6_thicken 15 = .ok (.istore 4, 2) := by decide +kernel
theorem dX6_thicken_17 : decode cX6_thicken 17 = .ok (.aload_n 0, 1) := by decide +kernel
theorem dX6_thicken_18 : decode cX6_thicken 18 = .ok (.iload_n 1, 1) := by decide +kernel
theorem dX6_thicken_19 : decode cX6_thicken 19 = .ok (.iload_n 2, 1) := by decide +kernel
theorem dX6_thicken_20 : decode cX6_thicken 20 = .ok (.aload_n 0, 1) := by decide +kernel
theorem dX6_thicken_21 : decode cX6_thicken 21 = .ok (.getfield 9, 3) := by decide +kernel
theorem dX6_thicken_24 : decode cX6_thicken 24 = .ok (.iload 4, 2) := by decide +kernel
theorem dX6_thicken_26 : decode cX6_thicken 26 = .ok (.iaload, 1) := by decide +kernel
theorem dX6_thicken_27 : decode cX6_thicken 27 = .ok (.iload_n 3, 1) := by decide +kernel
theorem dX6_thicken_28 : decode cX6_thicken 28 = .ok (.iadd, 1) := by decide +kernel
theorem kw_3_163 : Cond.methodLink RX6 53 yX6_withinBounds ∈ gw := gw_t3 (List.mem_of_getElem? (i := 163) (by decide +kernel)) (by decide +kernel)
theorem kw_3_164 : Cond.static yX6_withinBounds ∈ gw := gw_t3 (List.mem_of_getElem? (i := 164) (by decide +kernel)) (by decide +kernel)
theorem kw_3_165 : Cond.code yX6_withinBounds cX6_withinBounds 1 (some .int) ∈ gw := gw_t3 (List.mem_of_getElem? (i := 165) (by decide +kernel)) (by decide +kernel)
theorem gk_X6_53 : GoodIn gw (wsS RX6 53 yX6_withinBounds (.code yX6_withinBounds cX6_withinBounds 1 (some .int) :: gw)) ∧ (yX6_withinBounds.cls = RX6 ∧ yX6_withinBounds.cls ≠ "java/lang/invoke/MethodHandle" ∧ yX6_withinBounds.cls ≠ "java/lang/invoke/VarHandle" ∧ (parseMethodDescriptor yX6_withinBounds.desc).map (fun d => d.parameters.length) = some 1) := ⟨gi_S kw_3_163 kw_3_164 kw_1_7 kw_3_165, by decide +kernel⟩
theorem dX6_thicken_29 : decode cX6_thicken 29 = .ok (.invokestatic 53, 3) := by decide +kernel
theorem dX6_thicken_32 : decode cX6_thicken 32 = .ok (.aload_n 0, 1) := by decide +kernel
theorem dX6_thicken_33 : decode cX6_thicken 33 = .ok (.getfield 15, 3) := by decide +kernel
theorem dX6_thicken_36 : decode cX6_thicken 36 = .ok (.iload 4, 2) := by decide +kernel
theorem dX6_thicken_38 : decode cX6_thicken 38 = .ok (.iaload, 1) := by decide +kernel
theorem dX6_thicken_39 : decode cX6_thicken 39 = .ok (.iload_n 3, 1) := by decide +kernel
theorem dX6_thicken_40 : decode cX6_thicken 40 = .ok (.iadd, 1) := by decide +kernel
theorem dX6_thicken_41 : decode cX6_thicken 41 = .ok (.invokestatic 53, 3) := by decide +kernel
theorem kw_3_168 : Cond.methodLink RX6 57 yX6_makeThick ∈ gw := gw_t3 (List.mem_of_getElem? (i := 168) (by decide +kernel)) (by decide +kernel)
theorem kw_3_11 : Cond.instanceMethod yX6_makeThick ∈ gw := gw_t3 (List.mem_of_getElem? (i := 11) (by decide +kernel)) (by decide +kernel)
theorem kw_3_12 : Cond.selects RX6 yX6_makeThick yX6_makeThick ∈ gw := gw_t3 (List.mem_of_getElem? (i := 12) (by decide +kernel)) (by decide +kernel)
theorem kw_3_13 : Cond.code yX6_makeThick cX6_makeThick 5 none ∈ gw := gw_t3 (List.mem_of_getElem? (i := 13) (by decide +kernel)) (by decide +kernel)
theorem gk_X6_57 : GoodIn gw (wsV RX6 57 RX6 yX6_makeThick (.code yX6_makeThick cX6_makeThick 5 none :: gw)) ∧ (yX6_makeThick.cls = RX6 ∧ yX6_makeThick.cls ≠ "java/lang/invoke/MethodHandle" ∧ yX6_makeThick.cls ≠ "java/lang/invoke/VarHandle" ∧ (parseMethodDescriptor yX6_makeThick.desc).map (fun d => d.parameters.length) = some 4) := ⟨gi_V kw_3_168 kw_3_11 kw_3_12 kw_1_7 kw_3_13, by decide +kernel⟩
theorem dX6_thicken_44 : decode cX6_thicken 44 = .ok (.invokevirtual 57, 3) := by decide +kernel
theorem dX6_thicken_47 : decode cX6_thicken 47 = .ok (.return_, 1) := by decide +kernel
theorem dX6_share_0 : decode cX6_share 0 = .ok (.iload_n 0, 1) := by decide +kernel
theorem dX6_share_1 : decode cX6_share 1 = .ok (.ifCond .ne 7, 3) := by decide +kernel
theorem dX6_share_8 : decode cX6_share 8 = .ok (.iconst 1, 1) := by decide +kernel
theorem dX6_share_9 : decode cX6_share 9 = .ok (.iload_n 1, 1) := by decide +kernel
theorem dX6_share_10 : decode cX6_share 10 = .ok (.ifCond .ne 7, 3) := by decide +kernel
theorem dX6_share_17 : decode cX6_share 17 = .ok (.iconst 1, 1) := by decide +kernel
theorem dX6_share_18 : decode cX6_share 18 = .ok (.imul, 1) := by decide +kernel
theorem dX6_share_19 : decode cX6_share 19 = .ok (.ireturn, 1) := by decide +kernel
theorem dX6_share_13 : decode cX6_share 13 = .ok (.iconst 2, 1) := by decide +kernel
theorem dX6_share_14 : decode cX6_share 14 = .ok (.goto 4, 3) := by decide +kernel
theorem dX6_share_4 : decode cX6_share 4 = .ok (.iconst 2, 1) := by decide +kernel
theorem dX6_share_5 : decode cX6_share 5 = .ok (.goto 4, 3) := by decide +kernel
theorem dX6_load_12 : decode cX6_load 12 = .ok (.iload 5, 2) := by decide +kernel
theorem dX6_load_14 : decode cX6_load 14 = .ok (.iconst 1, 1) := by decide +kernel
theorem dX6_load_15 : decode cX6_load 15 = .ok (.if_icmp .gt 53, 3) := by decide +kernel
theorem dX6_load_18 : decode cX6_load 18 = .ok (.aload_n 0, 1) := by decide +kernel
theorem dX6_load_19 : decode cX6_load 19 = .ok (.iload_n 1, 1) := by decide +kernel
theorem dX6_load_20 : decode cX6_load 20 = .ok (.iload 5, 2) := by decide +kernel
theorem dX6_load_22 : decode cX6_load 22 = .ok (.iadd, 1) := by decide +kernel
theorem dX6_load_23 : decode cX6_load 23 = .ok (.iload_n 2, 1) := by decide +kernel
theorem dX6_load_24 : decode cX6_load 24 = .ok (.iload 4, 2) := by decide +kernel
theorem dX6_load_26 : decode cX6_load 26 = .ok (.iadd, 1) := by decide +kernel
theorem dX6_load_27 : decode cX6_load 27 = .ok (.invokevirtual 42, 3) := by decide +kernel
theorem dX6_load_30 : decode cX6_load 30 = .ok (.ifCond .eq 32, 3) := by decide +kernel
theorem dX6_load_62 : decode cX6_load 62 = .ok (.iinc 5 1, 3) := by decide +kernel
theorem dX6_load_65 : decode cX6_load 65 = .ok (.goto (-53), 3) := by decide +kernel
theorem dX6_load_33 : decode cX6_load 33 = .ok (.aload_n 0, 1) := by decide +kernel
theorem dX6_load_34 : decode cX6_load 34 = .ok (.getfield 18, 3) := by decide +kernel
theorem dX6_load_37 : decode cX6_load 37 = .ok (.aload_n 0, 1) := by decide +kernel
theorem dX6_load_38 : decode cX6_load 38 = .ok (.iload_n 1, 1) := by decide +kernel
theorem dX6_load_39 : decode cX6_load 39 = .ok (.iload 5, 2) := by decide +kernel
theorem dX6_load_41 : decode cX6_load 41 = .ok (.iadd, 1) := by decide +kernel
theorem dX6_load_42 : decode cX6_load 42 = .ok (.iload_n 2, 1) := by decide +kernel
theorem dX6_load_43 : decode cX6_load 43 = .ok (.iload 4, 2) := by decide +kernel
theorem dX6_load_45 : decode cX6_load 45 = .ok (.iadd, 1) := by decide +kernel
theorem dX6_load_46 : decode cX6_load 46 = .ok (.invokevirtual 46, 3) := by decide +kernel
theorem dX6_load_49 : decode cX6_load 49 = .ok (.dup2, 1) := by decide +kernel
theorem dX6_load_50 : decode cX6_load 50 = .ok (.iaload, 1) := by decide +kernel
theorem dX6_load_51 : decode cX6_load 51 = .ok (.iload_n 3, 1) := by decide +kernel
theorem dX6_load_52 : decode cX6_load 52 = .ok (.iload 5, 2) := by decide +kernel
theorem dX6_load_54 : decode cX6_load 54 = .ok (.iload 4, 2) := by decide +kernel
theorem kw_3_89 : Cond.methodLink RX6 69 yX6_share ∈ gw := gw_t3 (List.mem_of_getElem? (i := 89) (by decide +kernel)) (by decide +kernel)
theorem kw_3_90 : Cond.static yX6_share ∈ gw := gw_t3 (List.mem_of_getElem? (i := 90) (by decide +kernel)) (by decide +kernel)
theorem kw_3_91 : Cond.code yX6_share cX6_share 2 (some .int) ∈ gw := gw_t3 (List.mem_of_getElem? (i := 91) (by decide +kernel)) (by decide +kernel)
theorem gk_X6_69 : GoodIn gw (wsS RX6 69 yX6_share (.code yX6_share cX6_share 2 (some .int) :: gw)) ∧ (yX6_share.cls = RX6 ∧ yX6_share.cls ≠ "java/lang/invoke/MethodHandle" ∧ yX6_share.cls ≠ "java/lang/invoke/VarHandle" ∧ (parseMethodDescriptor yX6_share.desc).map (fun d => d.parameters.length) = some 2) := ⟨gi_S kw_3_89 kw_3_90 kw_1_7 kw_3_91, by decide +kernel⟩
theorem dX6_load_56 : decode cX6_load 56 = .ok (.invokestatic 69, 3) := by decide +kernel
theorem dX6_load_59 : decode cX6_load 59 = .ok (.imul, 1) := by decide +kernel
theorem dX6_load_60 : decode cX6_load 60 = .ok (.iadd, 1) := by decide +kernel
theorem dX6_load_61 : decode cX6_load 61 = .ok (.iastore, 1) := by decide +kernel
theorem dX6_load_3 : decode cX6_load 3 = .ok (.iload 4, 2) := by decide +kernel
theorem dX6_load_5 : decode cX6_load 5 = .ok (.iconst 1, 1) := by decide +kernel
theorem dX6_load_6 : decode cX6_load 6 = .ok (.if_icmp .gt 68, 3) := by decide +kernel
theorem dX6_load_9 : decode cX6_load 9 = .ok (.iconst (-1), 1) := by decide +kernel
theorem dX6_load_10 : decode cX6_load 10 = .ok (.istore 5, 2) := by decide +kernel
theorem dX6_load_68 : decode cX6_load 68 = .ok (.iinc 4 1, 3) := by decide +kernel
theorem dX6_load_71 : decode cX6_load 71 = .ok (.goto (-68), 3) := by decide +kernel
theorem dX6_load_0 : decode cX6_load 0 = .ok (.iconst (-1), 1) := by decide +kernel
theorem dX6_load_1 : decode cX6_load 1 = .ok (.istore 4, 2) := by decide +kernel
theorem dX6_load_74 : decode cX6_load 74 = .ok (.return_, 1) := by decide +kernel
theorem dX6_bearsAlso_12 : decode cX6_bearsAlso 12 = .ok (.iload 6, 2) := by decide +kernel
theorem dX6_bearsAlso_14 : decode cX6_bearsAlso 14 = .ok (.iconst 1, 1) := by decide +kernel
theorem dX6_bearsAlso_15 : decode cX6_bearsAlso 15 = .ok (.if_icmp .gt 68, 3) := by decide +kernel
theorem dX6_bearsAlso_18 : decode cX6_bearsAlso 18 = .ok (.aload_n 0, 1) := by decide +kernel
theorem dX6_bearsAlso_19 : decode cX6_bearsAlso 19 = .ok (.iload_n 1, 1) := by decide +kernel
theorem dX6_bearsAlso_20 : decode cX6_bearsAlso 20 = .ok (.iload 6, 2) := by decide +kernel
theorem dX6_bearsAlso_22 : decode cX6_bearsAlso 22 = .ok (.iadd, 1) := by decide +kernel
theorem dX6_bearsAlso_23 : decode cX6_bearsAlso 23 = .ok (.iload_n 2, 1) := by decide +kernel
theorem dX6_bearsAlso_24 : decode cX6_bearsAlso 24 = .ok (.iload 5, 2) := by decide +kernel
theorem dX6_bearsAlso_26 : decode cX6_bearsAlso 26 = .ok (.iadd, 1) := by decide +kernel
theorem dX6_bearsAlso_27 : decode cX6_bearsAlso 27 = .ok (.invokevirtual 42, 3) := by decide +kernel
theorem dX6_bearsAlso_30 : decode cX6_bearsAlso 30 = .ok (.ifCond .eq 47, 3) := by decide +kernel
theorem dX6_bearsAlso_77 : decode cX6_bearsAlso 77 = .ok (.iinc 6 1, 3) := by decide +kernel
theorem dX6_bearsAlso_80 : decode cX6_bearsAlso 80 = .ok (.goto (-68), 3) := by decide +kernel
theorem dX6_bearsAlso_33 : decode cX6_bearsAlso 33 = .ok (.aload_n 0, 1) := by decide +kernel
theorem dX6_bearsAlso_34 : decode cX6_bearsAlso 34 = .ok (.iload_n 1, 1) := by decide +kernel
theorem dX6_bearsAlso_35 : decode cX6_bearsAlso 35 = .ok (.iload 6, 2) := by decide +kernel
theorem dX6_bearsAlso_37 : decode cX6_bearsAlso 37 = .ok (.iadd, 1) := by decide +kernel
theorem dX6_bearsAlso_38 : decode cX6_bearsAlso 38 = .ok (.iload_n 2, 1) := by decide +kernel
theorem dX6_bearsAlso_39 : decode cX6_bearsAlso 39 = .ok (.iload 5, 2) := by decide +kernel
theorem dX6_bearsAlso_41 : decode cX6_bearsAlso 41 = .ok (.iadd, 1) := by decide +kernel
theorem dX6_bearsAlso_42 : decode cX6_bearsAlso 42 = .ok (.invokevirtual 46, 3) := by decide +kernel
theorem dX6_bearsAlso_45 : decode cX6_bearsAlso 45 = .ok (.istore 7, 2) := by decide +kernel
theorem dX6_bearsAlso_47 : decode cX6_bearsAlso 47 = .ok (.aload_n 0, 1) := by decide +kernel
theorem dX6_bearsAlso_48 : decode cX6_bearsAlso 48 = .ok (.getfield 18, 3) := by decide +kernel
theorem dX6_bearsAlso_51 : decode cX6_bearsAlso 51 = .ok (.iload 7, 2) := by decide +kernel
theorem dX6_bearsAlso_53 : decode cX6_bearsAlso 53 = .ok (.iaload, 1) := by decide +kernel
theorem dX6_bearsAlso_54 : decode cX6_bearsAlso 54 = .ok (.iload_n 3, 1) := by decide +kernel
theorem dX6_bearsAlso_55 : decode cX6_bearsAlso 55 = .ok (.iload 6, 2) := by decide +kernel
theorem dX6_bearsAlso_57 : decode cX6_bearsAlso 57 = .ok (.iload 5, 2) := by decide +kernel
theorem dX6_bearsAlso_59 : decode cX6_bearsAlso 59 = .ok (.invokestatic 69, 3) := by decide +kernel
theorem dX6_bearsAlso_62 : decode cX6_bearsAlso 62 = .ok (.imul, 1) := by decide +kernel
theorem dX6_bearsAlso_63 : decode cX6_bearsAlso 63 = .ok (.iadd, 1) := by decide +kernel
theorem dX6_bearsAlso_64 : decode cX6_bearsAlso 64 = .ok (.aload_n 0, 1) := by decide +kernel
theorem dX6_bearsAlso_65 : decode cX6_bearsAlso 65 = .ok (.iload 7, 2) := by decide +kernel
theorem dX6_bearsAlso_67 : decode cX6_bearsAlso 67 = .ok (.iload 4, 2) := by decide +kernel
theorem kw_3_63 : Cond.methodLink RX6 72 yX6_bearing ∈ gw := gw_t3 (List.mem_of_getElem? (i := 63) (by decide +kernel)) (by decide +kernel)
theorem kw_3_64 : Cond.instanceMethod yX6_bearing ∈ gw := gw_t3 (List.mem_of_getElem? (i := 64) (by decide +kernel)) (by decide +kernel)
theorem kw_3_65 : Cond.selects RX6 yX6_bearing yX6_bearing ∈ gw := gw_t3 (List.mem_of_getElem? (i := 65) (by decide +kernel)) (by decide +kernel)
theorem kw_3_66 : Cond.code yX6_bearing cX6_bearing 3 (some .int) ∈ gw := gw_t3 (List.mem_of_getElem? (i := 66) (by decide +kernel)) (by decide +kernel)
theorem gk_X6_72 : GoodIn gw (wsV RX6 72 RX6 yX6_bearing (.code yX6_bearing cX6_bearing 3 (some .int) :: gw)) ∧ (yX6_bearing.cls = RX6 ∧ yX6_bearing.cls ≠ "java/lang/invoke/MethodHandle" ∧ yX6_bearing.cls ≠ "java/lang/invoke/VarHandle" ∧ (parseMethodDescriptor yX6_bearing.desc).map (fun d => d.parameters.length) = some 2) := ⟨gi_V kw_3_63 kw_3_64 kw_3_65 kw_1_7 kw_3_66, by decide +kernel⟩
theorem dX6_bearsAlso_69 : decode cX6_bearsAlso 69 = .ok (.invokevirtual 72, 3) := by decide +kernel
theorem dX6_bearsAlso_72 : decode cX6_bearsAlso 72 = .ok (.if_icmp .le 5, 3) := by decide +kernel
theorem dX6_bearsAlso_3 : decode cX6_bearsAlso 3 = .ok (.iload 5, 2) := by decide +kernel
theorem dX6_bearsAlso_5 : decode cX6_bearsAlso 5 = .ok (.iconst 1, 1) := by decide +kernel
theorem dX6_bearsAlso_6 : decode cX6_bearsAlso 6 = .ok (.if_icmp .gt 83, 3) := by decide +kernel
theorem dX6_bearsAlso_9 : decode cX6_bearsAlso 9 = .ok (.iconst (-1), 1) := by decide +kernel
theorem dX6_bearsAlso_10 : decode cX6_bearsAlso 10 = .ok (.istore 6, 2) := by decide +kernel
theorem dX6_bearsAlso_83 : decode cX6_bearsAlso 83 = .ok (.iinc 5 1, 3) := by decide +kernel
theorem dX6_bearsAlso_86 : decode cX6_bearsAlso 86 = .ok (.goto (-83), 3) := by decide +kernel
theorem dX6_bearsAlso_0 : decode cX6_bearsAlso 0 = .ok (.iconst (-1), 1) := by decide +kernel
theorem dX6_bearsAlso_1 : decode cX6_bearsAlso 1 = .ok (.istore 5, 2) := by decide +kernel
theorem dX6_bearsAlso_75 : decode cX6_bearsAlso 75 = .ok (.iconst 0, 1) := by decide +kernel
theorem dX6_bearsAlso_76 : decode cX6_bearsAlso 76 = .ok (.ireturn, 1) := by decide +kernel
theorem dX6_bearsAlso_89 : decode cX6_bearsAlso 89 = .ok (.iconst 1, 1) := by decide +kernel
theorem dX6_bearsAlso_90 : decode cX6_bearsAlso 90 = .ok (.ireturn, 1) := by decide +kernel
theorem dX6_hasCrackNearerThan_16 : decode cX6_hasCrackNearerThan 16 = .ok (.iload 5, 2) := by decide +kernel
theorem dX6_hasCrackNearerThan_18 : decode cX6_hasCrackNearerThan 18 = .ok (.iload_n 1, 1) := by decide +kernel
theorem dX6_hasCrackNearerThan_19 : decode cX6_hasCrackNearerThan 19 = .ok (.if_icmp .ge 46, 3) := by decide +kernel
theorem dX6_hasCrackNearerThan_22 : decode cX6_hasCrackNearerThan 22 = .ok (.aload_n 0, 1) := by decide +kernel
theorem dX6_hasCrackNearerThan_23 : decode cX6_hasCrackNearerThan 23 = .ok (.iload_n 2, 1) := by decide +kernel
theorem dX6_hasCrackNearerThan_24 : decode cX6_hasCrackNearerThan 24 = .ok (.iload 5, 2) := by decide +kernel
theorem dX6_hasCrackNearerThan_26 : decode cX6_hasCrackNearerThan 26 = .ok (.iadd, 1) := by decide +kernel
theorem dX6_hasCrackNearerThan_27 : decode cX6_hasCrackNearerThan 27 = .ok (.iload_n 3, 1) := by decide +kernel
theorem dX6_hasCrackNearerThan_28 : decode cX6_hasCrackNearerThan 28 = .ok (.iload 4, 2) := by decide +kernel
theorem dX6_hasCrackNearerThan_30 : decode cX6_hasCrackNearerThan 30 = .ok (.iadd, 1) := by decide +kernel
theorem dX6_hasCrackNearerThan_31 : decode cX6_hasCrackNearerThan 31 = .ok (.invokevirtual 42, 3) := by decide +kernel
theorem dX6_hasCrackNearerThan_34 : decode cX6_hasCrackNearerThan 34 = .ok (.ifCond .eq 25, 3) := by decide +kernel
theorem dX6_hasCrackNearerThan_59 : decode cX6_hasCrackNearerThan 59 = .ok (.iinc 5 1, 3) := by decide +kernel
theorem dX6_hasCrackNearerThan_62 : decode cX6_hasCrackNearerThan 62 = .ok (.goto (-46), 3) := by decide +kernel
theorem dX6_hasCrackNearerThan_37 : decode cX6_hasCrackNearerThan 37 = .ok (.aload_n 0, 1) := by decide +kernel
theorem dX6_hasCrackNearerThan_38 : decode cX6_hasCrackNearerThan 38 = .ok (.getfield 24, 3) := by decide +kernel
theorem dX6_hasCrackNearerThan_41 : decode cX6_hasCrackNearerThan 41 = .ok (.aload_n 0, 1) := by decide +kernel
theorem dX6_hasCrackNearerThan_42 : decode cX6_hasCrackNearerThan 42 = .ok (.iload_n 2, 1) := by decide +kernel
theorem dX6_hasCrackNearerThan_43 : decode cX6_hasCrackNearerThan 43 = .ok (.iload 5, 2) := by decide +kernel
theorem dX6_hasCrackNearerThan_45 : decode cX6_hasCrackNearerThan 45 = .ok (.iadd, 1) := by decide +kernel
theorem dX6_hasCrackNearerThan_46 : decode cX6_hasCrackNearerThan 46 = .ok (.iload_n 3, 1) := by decide +kernel
theorem dX6_hasCrackNearerThan_47 : decode cX6_hasCrackNearerThan 47 = .ok (.iload 4, 2) := by decide +kernel
theorem dX6_hasCrackNearerThan_49 : decode cX6_hasCrackNearerThan 49 = .ok (.iadd, 1) := by decide +kernel
theorem dX6_hasCrackNearerThan_50 : decode cX6_hasCrackNearerThan 50 = .ok (.invokevirtual 46, 3) := by decide +kernel
theorem dX6_hasCrackNearerThan_53 : decode cX6_hasCrackNearerThan 53 = .ok (.baload, 1) := by decide +kernel
theorem dX6_hasCrackNearerThan_54 : decode cX6_hasCrackNearerThan 54 = .ok (.ifCond .eq 5, 3) := by decide +kernel
set_option maxHeartbeats 4000000 in
set_option maxRecDepth 100000 in
theorem lp_hasCrack_in {p : Program} {l : Launch} {e : Env} {s : State} {m : MethodId} {args : Array Value} {below : List Frame} {meth : Method} {c : Code} {Q : State → Prop} {A : Nat → Prop} {D : va_G} (F : mFix p s m args c cX6_hasCrackNearerThan 6 RX6) (hA : ∀ q, s.heap.size ≤ q → A q) (h0 : Nat) (q1 : Nat) (q2 : Nat) (q3 : Nat) (q4 : Nat) (q5 : Nat) (q6 : Nat) (cy5 : ClassId) (f5 : Nat → Int32) (w : Nat) (h : Nat) (t1 : Int32) (x : Int32) (y : Int32) (dy : Int32) (hK : va_K D vwCl [(cy5, .boolean)] s)
    (kx_57 : ∀ (H : Heap) (locs : List Loc), va_P D vwCl [(h0, Sum.inr (5, [Value.int (nI w), Value.int (nI h), Value.ref q1, Value.ref q2, Value.ref q3, Value.ref q4, Value.ref q5, Value.ref q6])), (q5, Sum.inl (cy5, 100, Sum.inl f5))] H → va_D A [(h0, Sum.inr (5, [Value.int (nI w), Value.int (nI h), Value.ref q1, Value.ref q2, Value.ref q3, Value.ref q4, Value.ref q5, Value.ref q6])), (q5, Sum.inl (cy5, 100, Sum.inl f5))] → va_S A s.heap H locs → ∀ ls : Array Slot, lv_has ls 6 [] → W p l e ({ frames := 1, cells := 0, slots := 0, locals := 22 }) s m args below meth c H locs 0 0 Q (F0 m 57 ls []))
    (kx_65 : ∀ (H : Heap) (locs : List Loc), va_P D vwCl [(h0, Sum.inr (5, [Value.int (nI w), Value.int (nI h), Value.ref q1, Value.ref q2, Value.ref q3, Value.ref q4, Value.ref q5, Value.ref q6])), (q5, Sum.inl (cy5, 100, Sum.inl f5))] H → va_D A [(h0, Sum.inr (5, [Value.int (nI w), Value.int (nI h), Value.ref q1, Value.ref q2, Value.ref q3, Value.ref q4, Value.ref q5, Value.ref q6])), (q5, Sum.inl (cy5, 100, Sum.inl f5))] → va_S A s.heap H locs → ∀ ls : Array Slot, lv_has ls 6 [(0, Value.ref h0), (1, Value.int t1), (2, Value.int x), (3, Value.int y), (4, Value.int dy)] → W p l e ({ frames := 1, cells := 0, slots := 0, locals := 22 }) s m args below meth c H locs 0 0 Q (F0 m 65 ls [])) :
    ∀ n : Nat, ∀ (dx : Int32), (w ≤ 10) → (h ≤ 10) → (((t1 : Int32).toInt - dx.toInt).toNat) < n → ∀ (H : Heap) (locs : List Loc), va_P D vwCl [(h0, Sum.inr (5, [Value.int (nI w), Value.int (nI h), Value.ref q1, Value.ref q2, Value.ref q3, Value.ref q4, Value.ref q5, Value.ref q6])), (q5, Sum.inl (cy5, 100, Sum.inl f5))] H → va_D A [(h0, Sum.inr (5, [Value.int (nI w), Value.int (nI h), Value.ref q1, Value.ref q2, Value.ref q3, Value.ref q4, Value.ref q5, Value.ref q6])), (q5, Sum.inl (cy5, 100, Sum.inl f5))] → va_S A s.heap H locs → ∀ ls : Array Slot, lv_has ls 6 [(0, Value.ref h0), (1, Value.int t1), (2, Value.int x), (3, Value.int y), (4, Value.int dy), (5, Value.int dx)] → W p l e ({ frames := 1, cells := 0, slots := 0, locals := 22 }) s m args below meth c H locs 0 0 Q (F0 m 16 ls []) := by
  intro n
  induction n with
  | zero => intro dx h3 h4 hn; exact absurd hn (Nat.not_lt_zero _)
  | succ n ih =>
    intro dx h3 h4 hn H locs hP hD hS ls hl
    obtain ⟨hx, hb, hml, hown, hts⟩ := id F
    refine lv_iload hx hb dX6_hasCrackNearerThan_16 (lv_at hl 5 rfl) ?_
    refine lv_iload_n hx hb dX6_hasCrackNearerThan_18 rfl (lv_at hl 1 rfl) ?_
    refine lv_icmp_ge (tgt := 65) hx hb dX6_hasCrackNearerThan_19 (by decide) (fun c_1 => ?_) (fun c_1 => ?_)
    · skip
      have c_1 := Int32.not_lt.mpr c_1
      exact kx_65   H locs (hP.sub [0, 1] rfl) (hD.sub [0, 1] (by decide) rfl) hS ls (lv_sub hl [0, 1, 2, 3, 4] rfl)
    · skip
      have c_1 := Int32.not_le.mp c_1
      refine lv_aload_n hx hb dX6_hasCrackNearerThan_22 rfl (lv_at hl 0 rfl) ?_
      refine lv_iload_n hx hb dX6_hasCrackNearerThan_23 rfl (lv_at hl 2 rfl) ?_
      refine lv_iload hx hb dX6_hasCrackNearerThan_24 (lv_at hl 5 rfl) ?_
      refine lv_iadd hx hb dX6_hasCrackNearerThan_26 ?_
      refine lv_topi (fun z_2 ez_2 => ?_)
      refine lv_iload_n hx hb dX6_hasCrackNearerThan_27 rfl (lv_at hl 3 rfl) ?_
      refine lv_iload hx hb dX6_hasCrackNearerThan_28 (lv_at hl 4 rfl) ?_
      refine lv_iadd hx hb dX6_hasCrackNearerThan_30 ?_
      refine lv_topi (fun z_3 ez_3 => ?_)
      refine mc_Vi (rest := []) (wr := [(q5, Sum.inl (cy5, 100, Sum.inl f5))]) F hK hP hD hS hA (c_has_any l D h0 q1 q2 q3 q4 q5 q6 w h z_2 z_3 (by omega) (by omega)) ⟨gk_X6_42.1, gk_X6_42.2, Nat.le_of_ble_eq_true rfl, Nat.le_of_ble_eq_true rfl⟩ [0] [1] [] ⟨rfl, rfl, rfl, rfl, by decide⟩ rfl xT_move (fun _ _ _ => trivial) 0 rfl rfl rfl hl.1 rfl (Nat.le_of_ble_eq_true rfl) dX6_hasCrackNearerThan_31 ⟨Nat.le_of_ble_eq_true rfl, Nat.le_of_ble_eq_true rfl⟩ (fun r_4 _ H locs hw hK1 hP hD hS => ?_)
      have hP : va_P D vwCl [(q5, Sum.inl (cy5, 100, Sum.inl f5)), (h0, Sum.inr (5, [Value.int (nI w), Value.int (nI h), Value.ref q1, Value.ref q2, Value.ref q3, Value.ref q4, Value.ref q5, Value.ref q6]))] H := hP
      have hD : va_D A [(q5, Sum.inl (cy5, 100, Sum.inl f5)), (h0, Sum.inr (5, [Value.int (nI w), Value.int (nI h), Value.ref q1, Value.ref q2, Value.ref q3, Value.ref q4, Value.ref q5, Value.ref q6]))] := hD
      have hw_5 : r_4 = (if (z_2 < 0 ∨ ¬ z_2 < nI w ∨ z_3 < 0 ∨ ¬ z_3 < nI h) then 0 else 1) := hw
      by_cases ho_6 : (z_2 < 0 ∨ ¬ z_2 < nI w ∨ z_3 < 0 ∨ ¬ z_3 < nI h)
      · skip
        obtain rfl : r_4 = 0 := by rw [hw_5, if_pos ho_6]
        refine lv_if_eq (tgt := 59) hx hb dX6_hasCrackNearerThan_34 (by decide) (fun c_7 => ?_) (fun c_7 => absurd c_7 (by decide))
        obtain ⟨z_8, ez_8⟩ : ∃ y : Int32, y = dx + 1 := ⟨_, rfl⟩
        refine lv_iinc (v := z_8) (lv' := [(5, Value.int z_8), (0, Value.ref h0), (1, Value.int t1), (2, Value.int x), (3, Value.int y), (4, Value.int dy)]) hx hb dX6_hasCrackNearerThan_59 hl (k := 5) rfl (by rw [ez_8]; rfl) (by decide) rfl (fun ls hl => ?_)
        refine lv_goto (tgt := 16) hx hb dX6_hasCrackNearerThan_62 (by decide) ?_
        exact ih z_8 (by omega) (by omega) (Nat.lt_of_lt_of_le (by rw [ez_8]; exact inc_lt c_1) (Nat.le_of_lt_succ hn)) H locs (hP.sub [1, 0] rfl) (hD.sub [1, 0] (by decide) rfl) hS ls (lv_sub hl [1, 2, 3, 4, 5, 0] rfl)
      · skip
        obtain rfl : r_4 = 1 := by rw [hw_5, if_neg ho_6]
        obtain ⟨i_9, hi_9, ei_9⟩ : ∃ j : Nat, j < w ∧ z_2 = nI j := n_lt (fun q => ho_6 (Or.inl q)) (fun q => ho_6 (Or.inr (Or.inl (Int32.not_lt.mpr q)))) (by omega)
        obtain ⟨j_10, hj_10, ej_10⟩ : ∃ j : Nat, j < h ∧ z_3 = nI j := n_lt (fun q => ho_6 (Or.inr (Or.inr (Or.inl q)))) (fun q => ho_6 (Or.inr (Or.inr (Or.inr (Int32.not_lt.mpr q))))) (by omega)
        subst ei_9
        subst ej_10
        have hl : lv_has ls 6 [(0, Value.ref h0), (1, Value.int t1), (2, Value.int x), (3, Value.int y), (4, Value.int dy), (5, Value.int dx)] := hl
        refine lv_if_eq (tgt := 59) hx hb dX6_hasCrackNearerThan_34 (by decide) (fun c_11 => absurd c_11 (by decide)) (fun c_11 => ?_)
        refine lv_aload_n hx hb dX6_hasCrackNearerThan_37 rfl (lv_at hl 0 rfl) ?_
        refine va_get (D := D) (ci := 5) (v := Value.ref q5) (C := RX6) (T := TX6) (N := 8) hx hb hts inG_X6 hown hK hP 1 rfl rfl 6 (by decide) (hts _ kw_1_157) (fun _ h9 => h9) rfl dX6_hasCrackNearerThan_38 ?_
        refine lv_aload_n hx hb dX6_hasCrackNearerThan_41 rfl (lv_at hl 0 rfl) ?_
        refine lv_iload_n hx hb dX6_hasCrackNearerThan_42 rfl (lv_at hl 2 rfl) ?_
        refine lv_iload hx hb dX6_hasCrackNearerThan_43 (lv_at hl 5 rfl) ?_
        refine lv_iadd hx hb dX6_hasCrackNearerThan_45 ?_
        refine lv_topi (fun z_12 ez_12 => ?_)
        obtain rfl : z_12 = nI i_9 := ez_12.trans ez_2.symm
        refine lv_iload_n hx hb dX6_hasCrackNearerThan_46 rfl (lv_at hl 3 rfl) ?_
        refine lv_iload hx hb dX6_hasCrackNearerThan_47 (lv_at hl 4 rfl) ?_
        refine lv_iadd hx hb dX6_hasCrackNearerThan_49 ?_
        refine lv_topi (fun z_13 ez_13 => ?_)
        obtain rfl : z_13 = nI j_10 := ez_13.trans ez_3.symm
        refine mc_Vi (rest := [Value.ref q5]) (wr := [(q5, Sum.inl (cy5, 100, Sum.inl f5))]) F hK hP hD hS hA (c_spotOf l D h0 q1 q2 q3 q4 q5 q6 w h i_9 j_10 ) ⟨gk_X6_46.1, gk_X6_46.2, Nat.le_of_ble_eq_true rfl, Nat.le_of_ble_eq_true rfl⟩ [1] [0] [] ⟨rfl, rfl, rfl, rfl, by decide⟩ rfl xT_move (fun _ _ _ => trivial) 1 rfl rfl rfl hl.1 rfl (Nat.le_of_ble_eq_true rfl) dX6_hasCrackNearerThan_50 ⟨Nat.le_of_ble_eq_true rfl, Nat.le_of_ble_eq_true rfl⟩ (fun r_14 _ H locs hw hK1 hP hD hS => ?_)
        have hP : va_P D vwCl [(q5, Sum.inl (cy5, 100, Sum.inl f5)), (h0, Sum.inr (5, [Value.int (nI w), Value.int (nI h), Value.ref q1, Value.ref q2, Value.ref q3, Value.ref q4, Value.ref q5, Value.ref q6]))] H := hP
        have hD : va_D A [(q5, Sum.inl (cy5, 100, Sum.inl f5)), (h0, Sum.inr (5, [Value.int (nI w), Value.int (nI h), Value.ref q1, Value.ref q2, Value.ref q3, Value.ref q4, Value.ref q5, Value.ref q6]))] := hD
        have hw_15 : r_14 = nI (j_10 * 10 + i_9) := hw
        obtain rfl : r_14 = nI (j_10 * 10 + i_9) := hw_15
        refine m_zald hx hb hK hP 0 0 rfl rfl (j_10 * 10 + i_9) rfl (by omega) (by decide) dX6_hasCrackNearerThan_53 ?_
        refine lv_topi (fun v_16 ev_16 => ?_)
        refine lv_if_eq (tgt := 59) hx hb dX6_hasCrackNearerThan_54 (by decide) (fun c_17 => ?_) (fun c_17 => ?_)
        · skip
          obtain ⟨z_18, ez_18⟩ : ∃ y : Int32, y = dx + 1 := ⟨_, rfl⟩
          refine lv_iinc (v := z_18) (lv' := [(5, Value.int z_18), (0, Value.ref h0), (1, Value.int t1), (2, Value.int x), (3, Value.int y), (4, Value.int dy)]) hx hb dX6_hasCrackNearerThan_59 hl (k := 5) rfl (by rw [ez_18]; rfl) (by decide) rfl (fun ls hl => ?_)
          refine lv_goto (tgt := 16) hx hb dX6_hasCrackNearerThan_62 (by decide) ?_
          exact ih z_18 (by omega) (by omega) (Nat.lt_of_lt_of_le (by rw [ez_18]; exact inc_lt c_1) (Nat.le_of_lt_succ hn)) H locs (hP.sub [1, 0] rfl) (hD.sub [1, 0] (by decide) rfl) hS ls (lv_sub hl [1, 2, 3, 4, 5, 0] rfl)
        · skip
          exact kx_57   H locs (hP.sub [1, 0] rfl) (hD.sub [1, 0] (by decide) rfl) hS ls (lv_sub hl [] rfl)
theorem dX6_hasCrackNearerThan_5 : decode cX6_hasCrackNearerThan 5 = .ok (.iload 4, 2) := by decide +kernel
theorem dX6_hasCrackNearerThan_7 : decode cX6_hasCrackNearerThan 7 = .ok (.iload_n 1, 1) := by decide +kernel
theorem dX6_hasCrackNearerThan_8 : decode cX6_hasCrackNearerThan 8 = .ok (.if_icmp .ge 63, 3) := by decide +kernel
theorem dX6_hasCrackNearerThan_11 : decode cX6_hasCrackNearerThan 11 = .ok (.iconst 1, 1) := by decide +kernel
theorem dX6_hasCrackNearerThan_12 : decode cX6_hasCrackNearerThan 12 = .ok (.iload_n 1, 1) := by decide +kernel
theorem dX6_hasCrackNearerThan_13 : decode cX6_hasCrackNearerThan 13 = .ok (.isub, 1) := by decide +kernel
theorem dX6_hasCrackNearerThan_14 : decode cX6_hasCrackNearerThan 14 = .ok (.istore 5, 2) := by decide +kernel
theorem dX6_hasCrackNearerThan_65 : decode cX6_hasCrackNearerThan 65 = .ok (.iinc 4 1, 3) := by decide +kernel
theorem dX6_hasCrackNearerThan_68 : decode cX6_hasCrackNearerThan 68 = .ok (.goto (-63), 3) := by decide +kernel
set_option maxHeartbeats 4000000 in
set_option maxRecDepth 100000 in
theorem lp_hasCrack_out {p : Program} {l : Launch} {e : Env} {s : State} {m : MethodId} {args : Array Value} {below : List Frame} {meth : Method} {c : Code} {Q : State → Prop} {A : Nat → Prop} {D : va_G} (F : mFix p s m args c cX6_hasCrackNearerThan 6 RX6) (hA : ∀ q, s.heap.size ≤ q → A q) (h0 : Nat) (q1 : Nat) (q2 : Nat) (q3 : Nat) (q4 : Nat) (q5 : Nat) (q6 : Nat) (cy5 : ClassId) (f5 : Nat → Int32) (w : Nat) (h : Nat) (t1 : Int32) (x : Int32) (y : Int32) (hK : va_K D vwCl [(cy5, .boolean)] s)
    (kx_57 : ∀ (H : Heap) (locs : List Loc), va_P D vwCl [(h0, Sum.inr (5, [Value.int (nI w), Value.int (nI h), Value.ref q1, Value.ref q2, Value.ref q3, Value.ref q4, Value.ref q5, Value.ref q6])), (q5, Sum.inl (cy5, 100, Sum.inl f5))] H → va_D A [(h0, Sum.inr (5, [Value.int (nI w), Value.int (nI h), Value.ref q1, Value.ref q2, Value.ref q3, Value.ref q4, Value.ref q5, Value.ref q6])), (q5, Sum.inl (cy5, 100, Sum.inl f5))] → va_S A s.heap H locs → ∀ ls : Array Slot, lv_has ls 6 [] → W p l e ({ frames := 1, cells := 0, slots := 0, locals := 22 }) s m args below meth c H locs 0 0 Q (F0 m 57 ls []))
    (kx_71 : ∀ (H : Heap) (locs : List Loc), va_P D vwCl [(h0, Sum.inr (5, [Value.int (nI w), Value.int (nI h), Value.ref q1, Value.ref q2, Value.ref q3, Value.ref q4, Value.ref q5, Value.ref q6])), (q5, Sum.inl (cy5, 100, Sum.inl f5))] H → va_D A [(h0, Sum.inr (5, [Value.int (nI w), Value.int (nI h), Value.ref q1, Value.ref q2, Value.ref q3, Value.ref q4, Value.ref q5, Value.ref q6])), (q5, Sum.inl (cy5, 100, Sum.inl f5))] → va_S A s.heap H locs → ∀ ls : Array Slot, lv_has ls 6 [] → W p l e ({ frames := 1, cells := 0, slots := 0, locals := 22 }) s m args below meth c H locs 0 0 Q (F0 m 71 ls [])) :
    ∀ n : Nat, ∀ (dy : Int32), (w ≤ 10) → (h ≤ 10) → (((t1 : Int32).toInt - dy.toInt).toNat) < n → ∀ (H : Heap) (locs : List Loc), va_P D vwCl [(h0, Sum.inr (5, [Value.int (nI w), Value.int (nI h), Value.ref q1, Value.ref q2, Value.ref q3, Value.ref q4, Value.ref q5, Value.ref q6])), (q5, Sum.inl (cy5, 100, Sum.inl f5))] H → va_D A [(h0, Sum.inr (5, [Value.int (nI w), Value.int (nI h), Value.ref q1, Value.ref q2, Value.ref q3, Value.ref q4, Value.ref q5, Value.ref q6])), (q5, Sum.inl (cy5, 100, Sum.inl f5))] → va_S A s.heap H locs → ∀ ls : Array Slot, lv_has ls 6 [(0, Value.ref h0), (1, Value.int t1), (2, Value.int x), (3, Value.int y), (4, Value.int dy)] → W p l e ({ frames := 1, cells := 0, slots := 0, locals := 22 }) s m args below meth c H locs 0 0 Q (F0 m 5 ls []) := by
  intro n
  induction n with
  | zero => intro dy h3 h4 hn; exact absurd hn (Nat.not_lt_zero _)
  | succ n ih =>
    intro dy h3 h4 hn H locs hP hD hS ls hl
    obtain ⟨hx, hb, hml, hown, hts⟩ := id F
    refine lv_iload hx hb dX6_hasCrackNearerThan_5 (lv_at hl 4 rfl) ?_
    refine lv_iload_n hx hb dX6_hasCrackNearerThan_7 rfl (lv_at hl 1 rfl) ?_
    refine lv_icmp_ge (tgt := 71) hx hb dX6_hasCrackNearerThan_8 (by decide) (fun c_1 => ?_) (fun c_1 => ?_)
    · skip
      have c_1 := Int32.not_lt.mpr c_1
      exact kx_71   H locs (hP.sub [0, 1] rfl) (hD.sub [0, 1] (by decide) rfl) hS ls (lv_sub hl [] rfl)
    · skip
      have c_1 := Int32.not_le.mp c_1
      refine lv_iconst (v := 1) hx hb dX6_hasCrackNearerThan_11 (by decide) ?_
      refine lv_iload_n hx hb dX6_hasCrackNearerThan_12 rfl (lv_at hl 1 rfl) ?_
      refine lv_isub hx hb dX6_hasCrackNearerThan_13 ?_
      refine lv_topi (fun z_2 ez_2 => ?_)
      refine lv_istore (lv' := [(5, Value.int z_2), (0, Value.ref h0), (1, Value.int t1), (2, Value.int x), (3, Value.int y), (4, Value.int dy)]) hx hb dX6_hasCrackNearerThan_14 hl (by decide) rfl (fun ls hl => ?_)
      refine lp_hasCrack_in F hA h0 q1 q2 q3 q4 q5 q6 cy5 f5 w h t1 x y dy (hK.sub [0] rfl) (fun   H locs hP hD hS ls hl => ?_) (fun   H locs hP hD hS ls hl => ?_) _ z_2 (by omega) (by omega) (Nat.lt_succ_self _) _ _ (hP.sub [0, 1] rfl) (hD.sub [0, 1] (by decide) rfl) hS ls (lv_sub hl [1, 2, 3, 4, 5, 0] rfl)
      · skip
        exact kx_57   H locs (hP.sub [0, 1] rfl) (hD.sub [0, 1] (by decide) rfl) hS ls (lv_sub hl [] rfl)
      · skip
        obtain ⟨z_3, ez_3⟩ : ∃ y : Int32, y = dy + 1 := ⟨_, rfl⟩
        refine lv_iinc (v := z_3) (lv' := [(4, Value.int z_3), (0, Value.ref h0), (1, Value.int t1), (2, Value.int x), (3, Value.int y)]) hx hb dX6_hasCrackNearerThan_65 hl (k := 4) rfl (by rw [ez_3]; rfl) (by decide) rfl (fun ls hl => ?_)
        refine lv_goto (tgt := 5) hx hb dX6_hasCrackNearerThan_68 (by decide) ?_
        exact ih z_3 (by omega) (by omega) (Nat.lt_of_lt_of_le (by rw [ez_3]; exact inc_lt c_1) (Nat.le_of_lt_succ hn)) H locs (hP.sub [0, 1] rfl) (hD.sub [0, 1] (by decide) rfl) hS ls (lv_sub hl [1, 2, 3, 4, 0] rfl)
theorem dX6_hasCrackNearerThan_0 : decode cX6_hasCrackNearerThan 0 = .ok (.iconst 1, 1) := by decide +kernel
theorem dX6_hasCrackNearerThan_1 : decode cX6_hasCrackNearerThan 1 = .ok (.iload_n 1, 1) := by decide +kernel
theorem dX6_hasCrackNearerThan_2 : decode cX6_hasCrackNearerThan 2 = .ok (.isub, 1) := by decide +kernel
theorem dX6_hasCrackNearerThan_3 : decode cX6_hasCrackNearerThan 3 = .ok (.istore 4, 2) := by decide +kernel
theorem dX6_hasCrackNearerThan_57 : decode cX6_hasCrackNearerThan 57 = .ok (.iconst 1, 1) := by decide +kernel
theorem dX6_hasCrackNearerThan_58 : decode cX6_hasCrackNearerThan 58 = .ok (.ireturn, 1) := by decide +kernel
theorem dX6_hasCrackNearerThan_71 : decode cX6_hasCrackNearerThan 71 = .ok (.iconst 0, 1) := by decide +kernel
theorem dX6_hasCrackNearerThan_72 : decode cX6_hasCrackNearerThan 72 = .ok (.ireturn, 1) := by decide +kernel
set_option maxHeartbeats 4000000 in
set_option maxRecDepth 100000 in
theorem c_hasCrack (l : Launch) (D : va_G) (h0 : Nat) (q1 : Nat) (q2 : Nat) (q3 : Nat) (q4 : Nat) (q5 : Nat) (q6 : Nat) (cy5 : ClassId) (f5 : Nat → Int32) (w : Nat) (h : Nat) (t1 : Int32) (x : Int32) (y : Int32) (h3 : w ≤ 10) (h4 : h ≤ 10) : cI l yX6_hasCrackNearerThan (.code yX6_hasCrackNearerThan cX6_hasCrackNearerThan 6 (some .boolean)) ({ frames := 1, cells := 0, slots := 0, locals := 22 }) D [(cy5, .boolean)] [(h0, Sum.inr (5, [Value.int (nI w), Value.int (nI h), Value.ref q1, Value.ref q2, Value.ref q3, Value.ref q4, Value.ref q5, Value.ref q6])), (q5, Sum.inl (cy5, 100, Sum.inl f5))] xT [Value.ref h0, Value.int t1, Value.int x, Value.int y] (S := Unit) (fun r _ => r = 0 ∨ r = 1) (fun _ => []) (fun _ => [(h0, Sum.inr (5, [Value.int (nI w), Value.int (nI h), Value.ref q1, Value.ref q2, Value.ref q3, Value.ref q4, Value.ref q5, Value.ref q6])), (q5, Sum.inl (cy5, 100, Sum.inl f5))]) := by
  intro sz
  refine Met.ofW (cc := cX6_hasCrackNearerThan) (maxL := 6) (ret := (some .boolean)) (by decide) rfl ?_
  intro p e s m args below meth c s₁ B hml hv
  obtain ⟨rfl, hsz, hP, hK, hD0, hX⟩ := hv
  have hx := B.exec
  have hb := B.bytes
  have hr := B.returns
  have hts0 := atoms_spec (ws := .code yX6_hasCrackNearerThan cX6_hasCrackNearerThan 6 (some .boolean) :: gw) B.pre
  have hts := fun (w : Cond) (h : w ∈ gw) => hts0 w (List.mem_cons_of_mem _ h)
  have hown : s.vm.findClass RX6 = some m.cls := findClass_of_methodNamed B.named
  have hlocks := B.notSynchronized
  have F : mFix p s m _ c cX6_hasCrackNearerThan 6 RX6 := ⟨hx, hb, hml, hown, hts⟩
  subst hsz
  have hD := hD0.self (sz := s.heap.size)
  generalize hAe : va_A [(h0, Sum.inr (5, [Value.int (nI w), Value.int (nI h), Value.ref q1, Value.ref q2, Value.ref q3, Value.ref q4, Value.ref q5, Value.ref q6])), (q5, Sum.inl (cy5, 100, Sum.inl f5))] s.heap.size = A at hD hX ⊢
  have hA : ∀ q : Nat, s.heap.size ≤ q → A q := fun q h => by rw [← hAe]; exact Or.inr h
  have hS : va_S A s.heap s.heap [] := va_S.rf
  have hl := lv_entry ([Value.ref h0, Value.int t1, Value.int x, Value.int y]) (n := 6) (Nat.le_of_ble_eq_true rfl)
  rw [lg_entry_eq]
  generalize (lg_sl ([Value.ref h0, Value.int t1, Value.int x, Value.int y]) ++ List.replicate (6 - (lg_sl ([Value.ref h0, Value.int t1, Value.int x, Value.int y])).length) Slot.unset).toArray = ls at hl ⊢
  have hl : lv_has ls 6 [(0, Value.ref h0), (1, Value.int t1), (2, Value.int x), (3, Value.int y)] := hl
  have hP : va_P D vwCl [(h0, Sum.inr (5, [Value.int (nI w), Value.int (nI h), Value.ref q1, Value.ref q2, Value.ref q3, Value.ref q4, Value.ref q5, Value.ref q6])), (q5, Sum.inl (cy5, 100, Sum.inl f5))] s.heap := hP
  refine lv_iconst (v := 1) hx hb dX6_hasCrackNearerThan_0 (by decide) ?_
  refine lv_iload_n hx hb dX6_hasCrackNearerThan_1 rfl (lv_at hl 1 rfl) ?_
  refine lv_isub hx hb dX6_hasCrackNearerThan_2 ?_
  refine lv_topi (fun z_1 ez_1 => ?_)
  refine lv_istore (lv' := [(4, Value.int z_1), (0, Value.ref h0), (1, Value.int t1), (2, Value.int x), (3, Value.int y)]) hx hb dX6_hasCrackNearerThan_3 hl (by decide) rfl (fun ls hl => ?_)
  refine lp_hasCrack_out F hA h0 q1 q2 q3 q4 q5 q6 cy5 f5 w h t1 x y (hK.sub [0] rfl) (fun   H locs hP hD hS ls hl => ?_) (fun   H locs hP hD hS ls hl => ?_) _ z_1 (by omega) (by omega) (Nat.lt_succ_self _) _ _ (hP.sub [0, 1] rfl) (hD.sub [0, 1] (by decide) rfl) hS ls (lv_sub hl [1, 2, 3, 4, 0] rfl)
  · skip
    refine lv_iconst (v := 1) hx hb dX6_hasCrackNearerThan_57 (by decide) ?_
    have hP9 := hP.sub (ws' := [(h0, Sum.inr (5, [Value.int (nI w), Value.int (nI h), Value.ref q1, Value.ref q2, Value.ref q3, Value.ref q4, Value.ref q5, Value.ref q6])), (q5, Sum.inl (cy5, 100, Sum.inl f5))]) [0, 1] rfl
    have hD9 := hD.sub (ws' := [(h0, Sum.inr (5, [Value.int (nI w), Value.int (nI h), Value.ref q1, Value.ref q2, Value.ref q3, Value.ref q4, Value.ref q5, Value.ref q6])), (q5, Sum.inl (cy5, 100, Sum.inl f5))]) [0, 1] (by decide) rfl
    have hK9 := hK.sub (tys' := []) [] rfl
    refine W.widen (k := 0) (n := 0) (by decide) (by decide) ?_
    exact W.zret (v := 1) hx hb hr rfl (fun t ht hW => ⟨⟨1, (), rfl, Or.inr rfl, by rw [ht]; exact hP9, va_K.moved hW.alike hK9, hD9⟩, hS.F ht⟩) hS.2.2 dX6_hasCrackNearerThan_58
  · skip
    refine lv_iconst (v := 0) hx hb dX6_hasCrackNearerThan_71 (by decide) ?_
    have hP9 := hP.sub (ws' := [(h0, Sum.inr (5, [Value.int (nI w), Value.int (nI h), Value.ref q1, Value.ref q2, Value.ref q3, Value.ref q4, Value.ref q5, Value.ref q6])), (q5, Sum.inl (cy5, 100, Sum.inl f5))]) [0, 1] rfl
    have hD9 := hD.sub (ws' := [(h0, Sum.inr (5, [Value.int (nI w), Value.int (nI h), Value.ref q1, Value.ref q2, Value.ref q3, Value.ref q4, Value.ref q5, Value.ref q6])), (q5, Sum.inl (cy5, 100, Sum.inl f5))]) [0, 1] (by decide) rfl
    have hK9 := hK.sub (tys' := []) [] rfl
    refine W.widen (k := 0) (n := 0) (by decide) (by decide) ?_
    exact W.zret (v := 0) hx hb hr rfl (fun t ht hW => ⟨⟨0, (), rfl, Or.inl rfl, by rw [ht]; exact hP9, va_K.moved hW.alike hK9, hD9⟩, hS.F ht⟩) hS.2.2 dX6_hasCrackNearerThan_72
theorem dX6_bearsAll_12 : decode cX6_bearsAll 12 = .ok (.iload_n 3, 1) := by decide +kernel
theorem dX6_bearsAll_13 : decode cX6_bearsAll 13 = .ok (.aload_n 0, 1) := by decide +kernel
theorem dX6_bearsAll_14 : decode cX6_bearsAll 14 = .ok (.getfield 35, 3) := by decide +kernel
theorem dX6_bearsAll_17 : decode cX6_bearsAll 17 = .ok (.if_icmp .ge 36, 3) := by decide +kernel
theorem dX6_bearsAll_20 : decode cX6_bearsAll 20 = .ok (.aload_n 0, 1) := by decide +kernel
theorem dX6_bearsAll_21 : decode cX6_bearsAll 21 = .ok (.iload_n 3, 1) := by decide +kernel
theorem dX6_bearsAll_22 : decode cX6_bearsAll 22 = .ok (.iload_n 2, 1) := by decide +kernel
theorem dX6_bearsAll_23 : decode cX6_bearsAll 23 = .ok (.invokevirtual 46, 3) := by decide +kernel
theorem dX6_bearsAll_26 : decode cX6_bearsAll 26 = .ok (.istore 4, 2) := by decide +kernel
theorem dX6_bearsAll_28 : decode cX6_bearsAll 28 = .ok (.aload_n 0, 1) := by decide +kernel
theorem dX6_bearsAll_29 : decode cX6_bearsAll 29 = .ok (.getfield 18, 3) := by decide +kernel
theorem dX6_bearsAll_32 : decode cX6_bearsAll 32 = .ok (.iload 4, 2) := by decide +kernel
theorem dX6_bearsAll_34 : decode cX6_bearsAll 34 = .ok (.iaload, 1) := by decide +kernel
theorem dX6_bearsAll_35 : decode cX6_bearsAll 35 = .ok (.aload_n 0, 1) := by decide +kernel
theorem dX6_bearsAll_36 : decode cX6_bearsAll 36 = .ok (.iload 4, 2) := by decide +kernel
theorem dX6_bearsAll_38 : decode cX6_bearsAll 38 = .ok (.iload_n 1, 1) := by decide +kernel
theorem dX6_bearsAll_39 : decode cX6_bearsAll 39 = .ok (.invokevirtual 72, 3) := by decide +kernel
theorem dX6_bearsAll_42 : decode cX6_bearsAll 42 = .ok (.if_icmp .le 5, 3) := by decide +kernel
theorem dX6_bearsAll_47 : decode cX6_bearsAll 47 = .ok (.iinc 3 1, 3) := by decide +kernel
theorem dX6_bearsAll_50 : decode cX6_bearsAll 50 = .ok (.goto (-38), 3) := by decide +kernel
theorem dX6_bearsAll_2 : decode cX6_bearsAll 2 = .ok (.iload_n 2, 1) := by decide +kernel
theorem dX6_bearsAll_3 : decode cX6_bearsAll 3 = .ok (.aload_n 0, 1) := by decide +kernel
theorem dX6_bearsAll_4 : decode cX6_bearsAll 4 = .ok (.getfield 39, 3) := by decide +kernel
theorem dX6_bearsAll_7 : decode cX6_bearsAll 7 = .ok (.if_icmp .ge 52, 3) := by decide +kernel
theorem dX6_bearsAll_10 : decode cX6_bearsAll 10 = .ok (.iconst 0, 1) := by decide +kernel
theorem dX6_bearsAll_11 : decode cX6_bearsAll 11 = .ok (.istore_n 3, 1) := by decide +kernel
theorem dX6_bearsAll_53 : decode cX6_bearsAll 53 = .ok (.iinc 2 1, 3) := by decide +kernel
theorem dX6_bearsAll_56 : decode cX6_bearsAll 56 = .ok (.goto (-54), 3) := by decide +kernel
theorem dX6_bearsAll_0 : decode cX6_bearsAll 0 = .ok (.iconst 0, 1) := by decide +kernel
theorem dX6_bearsAll_1 : decode cX6_bearsAll 1 = .ok (.istore_n 2, 1) := by decide +kernel
theorem dX6_bearsAll_45 : decode cX6_bearsAll 45 = .ok (.iconst 0, 1) := by decide +kernel
theorem dX6_bearsAll_46 : decode cX6_bearsAll 46 = .ok (.ireturn, 1) := by decide +kernel
theorem dX6_bearsAll_59 : decode cX6_bearsAll 59 = .ok (.iconst 1, 1) := by decide +kernel
theorem dX6_bearsAll_60 : decode cX6_bearsAll 60 = .ok (.ireturn, 1) := by decide +kernel
theorem dX6_crackCount_4 : decode cX6_crackCount 4 = .ok (.iload_n 2, 1) := by decide +kernel
theorem dX6_crackCount_5 : decode cX6_crackCount 5 = .ok (.bipush 100, 2) := by decide +kernel
theorem dX6_crackCount_7 : decode cX6_crackCount 7 = .ok (.if_icmp .ge 21, 3) := by decide +kernel
theorem dX6_crackCount_10 : decode cX6_crackCount 10 = .ok (.aload_n 0, 1) := by decide +kernel
theorem dX6_crackCount_11 : decode cX6_crackCount 11 = .ok (.getfield 24, 3) := by decide +kernel
theorem dX6_crackCount_14 : decode cX6_crackCount 14 = .ok (.iload_n 2, 1) := by decide +kernel
theorem dX6_crackCount_15 : decode cX6_crackCount 15 = .ok (.baload, 1) := by decide +kernel
theorem dX6_crackCount_16 : decode cX6_crackCount 16 = .ok (.ifCond .eq 6, 3) := by decide +kernel
theorem dX6_crackCount_22 : decode cX6_crackCount 22 = .ok (.iinc 2 1, 3) := by decide +kernel
theorem dX6_crackCount_25 : decode cX6_crackCount 25 = .ok (.goto (-21), 3) := by decide +kernel
theorem dX6_crackCount_19 : decode cX6_crackCount 19 = .ok (.iinc 1 1, 3) := by decide +kernel
set_option maxHeartbeats 4000000 in
set_option maxRecDepth 100000 in
theorem lp_crackCount {p : Program} {l : Launch} {e : Env} {s : State} {m : MethodId} {args : Array Value} {below : List Frame} {meth : Method} {c : Code} {Q : State → Prop} {A : Nat → Prop} {D : va_G} (F : mFix p s m args c cX6_crackCount 3 RX6) (hA : ∀ q, s.heap.size ≤ q → A q) (h0 : Nat) (q1 : Nat) (q2 : Nat) (q3 : Nat) (q4 : Nat) (q5 : Nat) (q6 : Nat) (cy5 : ClassId) (f5 : Nat → Int32) (w : Nat) (h : Nat) (hK : va_K D vwCl [(cy5, .boolean)] s)
    (kx_28 : ∀ (n9 : Int32), ∀ (H : Heap) (locs : List Loc), va_P D vwCl [(h0, Sum.inr (5, [Value.int (nI w), Value.int (nI h), Value.ref q1, Value.ref q2, Value.ref q3, Value.ref q4, Value.ref q5, Value.ref q6])), (q5, Sum.inl (cy5, 100, Sum.inl f5))] H → va_D A [(h0, Sum.inr (5, [Value.int (nI w), Value.int (nI h), Value.ref q1, Value.ref q2, Value.ref q3, Value.ref q4, Value.ref q5, Value.ref q6])), (q5, Sum.inl (cy5, 100, Sum.inl f5))] → va_S A s.heap H locs → ∀ ls : Array Slot, lv_has ls 3 [(1, Value.int n9)] → W p l e ({ frames := 0, cells := 0, slots := 0, locals := 0 }) s m args below meth c H locs 0 0 Q (F0 m 28 ls [])) :
    ∀ n : Nat, ∀ (i : Nat) (n9 : Int32), (i ≤ 100) → (100 - i) < n → ∀ (H : Heap) (locs : List Loc), va_P D vwCl [(h0, Sum.inr (5, [Value.int (nI w), Value.int (nI h), Value.ref q1, Value.ref q2, Value.ref q3, Value.ref q4, Value.ref q5, Value.ref q6])), (q5, Sum.inl (cy5, 100, Sum.inl f5))] H → va_D A [(h0, Sum.inr (5, [Value.int (nI w), Value.int (nI h), Value.ref q1, Value.ref q2, Value.ref q3, Value.ref q4, Value.ref q5, Value.ref q6])), (q5, Sum.inl (cy5, 100, Sum.inl f5))] → va_S A s.heap H locs → ∀ ls : Array Slot, lv_has ls 3 [(0, Value.ref h0), (1, Value.int n9), (2, Value.int (nI i))] → W p l e ({ frames := 0, cells := 0, slots := 0, locals := 0 }) s m args below meth c H locs 0 0 Q (F0 m 4 ls []) := by
  intro n
  induction n with
  | zero => intro i n9 hi hn; exact absurd hn (Nat.not_lt_zero _)
  | succ n ih =>
    intro i n9 hi hn H locs hP hD hS ls hl
    obtain ⟨hx, hb, hml, hown, hts⟩ := id F
    refine lv_iload_n hx hb dX6_crackCount_4 rfl (lv_at hl 2 rfl) ?_
    refine lv_bipush (v := 100) hx hb dX6_crackCount_5 (by decide) ?_
    refine lv_icmp_ge (tgt := 28) hx hb dX6_crackCount_7 (by decide) (fun c_1 => ?_) (fun c_1 => ?_)
    · skip
      have c_1n : 100 ≤ i := (nI_leI (by omega) (by omega)).mp c_1
      have c_1 := Int32.not_lt.mpr c_1
      exact kx_28 n9  H locs (hP.sub [0, 1] rfl) (hD.sub [0, 1] (by decide) rfl) hS ls (lv_sub hl [1] rfl)
    · skip
      have c_1n : i < 100 := nb_le (by omega) (by omega) c_1
      have c_1 := Int32.not_le.mp c_1
      refine lv_aload_n hx hb dX6_crackCount_10 rfl (lv_at hl 0 rfl) ?_
      refine va_get (D := D) (ci := 5) (v := Value.ref q5) (C := RX6) (T := TX6) (N := 8) hx hb hts inG_X6 hown hK hP 0 rfl rfl 6 (by decide) (hts _ kw_1_157) (fun _ h9 => h9) rfl dX6_crackCount_11 ?_
      refine lv_iload_n hx hb dX6_crackCount_14 rfl (lv_at hl 2 rfl) ?_
      refine m_zald hx hb hK hP 1 0 rfl rfl i rfl (by omega) (by decide) dX6_crackCount_15 ?_
      refine lv_topi (fun v_2 ev_2 => ?_)
      refine lv_if_eq (tgt := 22) hx hb dX6_crackCount_16 (by decide) (fun c_3 => ?_) (fun c_3 => ?_)
      · skip
        refine lv_iinc (v := nI (i + 1)) (lv' := [(2, Value.int (nI (i + 1))), (0, Value.ref h0), (1, Value.int n9)]) hx hb dX6_crackCount_22 hl (k := 2) rfl (nI_add i 1) (by decide) rfl (fun ls hl => ?_)
        refine lv_goto (tgt := 4) hx hb dX6_crackCount_25 (by decide) ?_
        exact ih (i + 1) n9 (by omega) (by omega) H locs (hP.sub [0, 1] rfl) (hD.sub [0, 1] (by decide) rfl) hS ls (lv_sub hl [1, 2, 0] rfl)
      · skip
        obtain ⟨z_4, ez_4⟩ : ∃ y : Int32, y = n9 + 1 := ⟨_, rfl⟩
        refine lv_iinc (v := z_4) (lv' := [(1, Value.int z_4), (0, Value.ref h0), (2, Value.int (nI i))]) hx hb dX6_crackCount_19 hl (k := 1) rfl (by rw [ez_4]; rfl) (by decide) rfl (fun ls hl => ?_)
        refine lv_iinc (v := nI (i + 1)) (lv' := [(2, Value.int (nI (i + 1))), (1, Value.int z_4), (0, Value.ref h0)]) hx hb dX6_crackCount_22 hl (k := 2) rfl (nI_add i 1) (by decide) rfl (fun ls hl => ?_)
        refine lv_goto (tgt := 4) hx hb dX6_crackCount_25 (by decide) ?_
        exact ih (i + 1) z_4 (by omega) (by omega) H locs (hP.sub [0, 1] rfl) (hD.sub [0, 1] (by decide) rfl) hS ls (lv_sub hl [2, 1, 0] rfl)
theorem dX6_crackCount_0 : decode cX6_crackCount 0 = .ok (.iconst 0, 1) := by decide +kernel
theorem dX6_crackCount_1 : decode cX6_crackCount 1 = .ok (.istore_n 1, 1) := by decide +kernel
theorem dX6_crackCount_2 : decode cX6_crackCount 2 = .ok (.iconst 0, 1) := by decide +kernel
theorem dX6_crackCount_3 : decode cX6_crackCount 3 = .ok (.istore_n 2, 1) := by decide +kernel
theorem dX6_crackCount_28 : decode cX6_crackCount 28 = .ok (.iload_n 1, 1) := by decide +kernel
theorem dX6_crackCount_29 : decode cX6_crackCount 29 = .ok (.ireturn, 1) := by decide +kernel
set_option maxHeartbeats 4000000 in
set_option maxRecDepth 100000 in
theorem c_crackCount (l : Launch) (D : va_G) (h0 : Nat) (q1 : Nat) (q2 : Nat) (q3 : Nat) (q4 : Nat) (q5 : Nat) (q6 : Nat) (cy5 : ClassId) (f5 : Nat → Int32) (w : Nat) (h : Nat) : cI l yX6_crackCount (.code yX6_crackCount cX6_crackCount 3 (some .int)) ({ frames := 0, cells := 0, slots := 0, locals := 0 }) D [(cy5, .boolean)] [(h0, Sum.inr (5, [Value.int (nI w), Value.int (nI h), Value.ref q1, Value.ref q2, Value.ref q3, Value.ref q4, Value.ref q5, Value.ref q6])), (q5, Sum.inl (cy5, 100, Sum.inl f5))] xT [Value.ref h0] (S := Unit) (fun r _ => r = r) (fun _ => []) (fun _ => [(h0, Sum.inr (5, [Value.int (nI w), Value.int (nI h), Value.ref q1, Value.ref q2, Value.ref q3, Value.ref q4, Value.ref q5, Value.ref q6])), (q5, Sum.inl (cy5, 100, Sum.inl f5))]) := by
  intro sz
  refine Met.ofW (cc := cX6_crackCount) (maxL := 3) (ret := (some .int)) (by decide) rfl ?_
  intro p e s m args below meth c s₁ B hml hv
  obtain ⟨rfl, hsz, hP, hK, hD0, hX⟩ := hv
  have hx := B.exec
  have hb := B.bytes
  have hr := B.returns
  have hts0 := atoms_spec (ws := .code yX6_crackCount cX6_crackCount 3 (some .int) :: gw) B.pre
  have hts := fun (w : Cond) (h : w ∈ gw) => hts0 w (List.mem_cons_of_mem _ h)
  have hown : s.vm.findClass RX6 = some m.cls := findClass_of_methodNamed B.named
  have hlocks := B.notSynchronized
  have F : mFix p s m _ c cX6_crackCount 3 RX6 := ⟨hx, hb, hml, hown, hts⟩
  subst hsz
  have hD := hD0.self (sz := s.heap.size)
  generalize hAe : va_A [(h0, Sum.inr (5, [Value.int (nI w), Value.int (nI h), Value.ref q1, Value.ref q2, Value.ref q3, Value.ref q4, Value.ref q5, Value.ref q6])), (q5, Sum.inl (cy5, 100, Sum.inl f5))] s.heap.size = A at hD hX ⊢
  have hA : ∀ q : Nat, s.heap.size ≤ q → A q := fun q h => by rw [← hAe]; exact Or.inr h
  have hS : va_S A s.heap s.heap [] := va_S.rf
  have hl := lv_entry ([Value.ref h0]) (n := 3) (Nat.le_of_ble_eq_true rfl)
  rw [lg_entry_eq]
  generalize (lg_sl ([Value.ref h0]) ++ List.replicate (3 - (lg_sl ([Value.ref h0])).length) Slot.unset).toArray = ls at hl ⊢
  have hl : lv_has ls 3 [(0, Value.ref h0)] := hl
  have hP : va_P D vwCl [(h0, Sum.inr (5, [Value.int (nI w), Value.int (nI h), Value.ref q1, Value.ref q2, Value.ref q3, Value.ref q4, Value.ref q5, Value.ref q6])), (q5, Sum.inl (cy5, 100, Sum.inl f5))] s.heap := hP
  refine lv_iconst (v := 0) hx hb dX6_crackCount_0 (by decide) ?_
  refine lv_istore_n (lv' := [(1, Value.int 0), (0, Value.ref h0)]) hx hb dX6_crackCount_1 rfl hl (by decide) rfl (fun ls hl => ?_)
  refine lv_iconst (v := 0) hx hb dX6_crackCount_2 (by decide) ?_
  refine lv_istore_n (lv' := [(2, Value.int 0), (1, Value.int 0), (0, Value.ref h0)]) hx hb dX6_crackCount_3 rfl hl (by decide) rfl (fun ls hl => ?_)
  refine lp_crackCount F hA h0 q1 q2 q3 q4 q5 q6 cy5 f5 w h (hK.sub [0] rfl) (fun n9_1  H locs hP hD hS ls hl => ?_) _ 0 0 (by omega) (Nat.lt_succ_self _) _ _ (hP.sub [0, 1] rfl) (hD.sub [0, 1] (by decide) rfl) hS ls (lv_sub hl [2, 1, 0] rfl)
  refine lv_iload_n hx hb dX6_crackCount_28 rfl (lv_at hl 0 rfl) ?_
  have hP9 := hP.sub (ws' := [(h0, Sum.inr (5, [Value.int (nI w), Value.int (nI h), Value.ref q1, Value.ref q2, Value.ref q3, Value.ref q4, Value.ref q5, Value.ref q6])), (q5, Sum.inl (cy5, 100, Sum.inl f5))]) [0, 1] rfl
  have hD9 := hD.sub (ws' := [(h0, Sum.inr (5, [Value.int (nI w), Value.int (nI h), Value.ref q1, Value.ref q2, Value.ref q3, Value.ref q4, Value.ref q5, Value.ref q6])), (q5, Sum.inl (cy5, 100, Sum.inl f5))]) [0, 1] (by decide) rfl
  have hK9 := hK.sub (tys' := []) [] rfl
  refine W.widen (k := 0) (n := 0) (by decide) (by decide) ?_
  exact W.iret (v := n9_1) hx hb hr (fun t ht hW => ⟨⟨n9_1, (), rfl, rfl, by rw [ht]; exact hP9, va_K.moved hW.alike hK9, hD9⟩, hS.F ht⟩) hS.2.2 dX6_crackCount_29
theorem dX6_healFrom_2 : decode cX6_healFrom 2 = .ok (.iload_n 2, 1) := by decide +kernel
theorem dX6_healFrom_3 : decode cX6_healFrom 3 = .ok (.bipush 100, 2) := by decide +kernel
theorem dX6_healFrom_5 : decode cX6_healFrom 5 = .ok (.if_icmp .ge 26, 3) := by decide +kernel
theorem dX6_healFrom_8 : decode cX6_healFrom 8 = .ok (.aload_n 0, 1) := by decide +kernel
theorem dX6_healFrom_9 : decode cX6_healFrom 9 = .ok (.getfield 9, 3) := by decide +kernel
theorem dX6_healFrom_12 : decode cX6_healFrom 12 = .ok (.iload_n 2, 1) := by decide +kernel
theorem dX6_healFrom_13 : decode cX6_healFrom 13 = .ok (.iaload, 1) := by decide +kernel
theorem dX6_healFrom_14 : decode cX6_healFrom 14 = .ok (.iload_n 1, 1) := by decide +kernel
theorem dX6_healFrom_15 : decode cX6_healFrom 15 = .ok (.if_icmp .lt 10, 3) := by decide +kernel
theorem dX6_healFrom_25 : decode cX6_healFrom 25 = .ok (.iinc 2 1, 3) := by decide +kernel
theorem dX6_healFrom_28 : decode cX6_healFrom 28 = .ok (.goto (-26), 3) := by decide +kernel
theorem dX6_healFrom_18 : decode cX6_healFrom 18 = .ok (.aload_n 0, 1) := by decide +kernel
theorem dX6_healFrom_19 : decode cX6_healFrom 19 = .ok (.getfield 24, 3) := by decide +kernel
theorem dX6_healFrom_22 : decode cX6_healFrom 22 = .ok (.iload_n 2, 1) := by decide +kernel
theorem dX6_healFrom_23 : decode cX6_healFrom 23 = .ok (.iconst 0, 1) := by decide +kernel
theorem dX6_healFrom_24 : decode cX6_healFrom 24 = .ok (.bastore, 1) := by decide +kernel
theorem dX6_healFrom_0 : decode cX6_healFrom 0 = .ok (.iconst 0, 1) := by decide +kernel
theorem dX6_healFrom_1 : decode cX6_healFrom 1 = .ok (.istore_n 2, 1) := by decide +kernel
theorem dX6_healFrom_31 : decode cX6_healFrom 31 = .ok (.return_, 1) := by decide +kernel
theorem dX6_markBreaking_15 : decode cX6_markBreaking 15 = .ok (.iload 4, 2) := by decide +kernel
theorem dX6_markBreaking_17 : decode cX6_markBreaking 17 = .ok (.aload_n 0, 1) := by decide +kernel
theorem dX6_markBreaking_18 : decode cX6_markBreaking 18 = .ok (.getfield 35, 3) := by decide +kernel
theorem dX6_markBreaking_21 : decode cX6_markBreaking 21 = .ok (.if_icmp .ge 99, 3) := by decide +kernel
theorem dX6_markBreaking_24 : decode cX6_markBreaking 24 = .ok (.aload_n 0, 1) := by decide +kernel
theorem dX6_markBreaking_25 : decode cX6_markBreaking 25 = .ok (.iload 4, 2) := by decide +kernel
theorem dX6_markBreaking_27 : decode cX6_markBreaking 27 = .ok (.iload_n 3, 1) := by decide +kernel
theorem dX6_markBreaking_28 : decode cX6_markBreaking 28 = .ok (.invokevirtual 46, 3) := by decide +kernel
theorem dX6_markBreaking_31 : decode cX6_markBreaking 31 = .ok (.istore 5, 2) := by decide +kernel
theorem dX6_markBreaking_33 : decode cX6_markBreaking 33 = .ok (.aload_n 0, 1) := by decide +kernel
theorem dX6_markBreaking_34 : decode cX6_markBreaking 34 = .ok (.getfield 18, 3) := by decide +kernel
theorem dX6_markBreaking_37 : decode cX6_markBreaking 37 = .ok (.iload 5, 2) := by decide +kernel
theorem dX6_markBreaking_39 : decode cX6_markBreaking 39 = .ok (.iaload, 1) := by decide +kernel
theorem dX6_markBreaking_40 : decode cX6_markBreaking 40 = .ok (.aload_n 0, 1) := by decide +kernel
theorem dX6_markBreaking_41 : decode cX6_markBreaking 41 = .ok (.iload 5, 2) := by decide +kernel
theorem dX6_markBreaking_43 : decode cX6_markBreaking 43 = .ok (.iload_n 1, 1) := by decide +kernel
theorem dX6_markBreaking_44 : decode cX6_markBreaking 44 = .ok (.invokevirtual 72, 3) := by decide +kernel
theorem dX6_markBreaking_47 : decode cX6_markBreaking 47 = .ok (.if_icmp .gt 13, 3) := by decide +kernel
theorem dX6_markBreaking_60 : decode cX6_markBreaking 60 = .ok (.iconst 1, 1) := by decide +kernel
theorem dX6_markBreaking_61 : decode cX6_markBreaking 61 = .ok (.goto 4, 3) := by decide +kernel
theorem dX6_markBreaking_65 : decode cX6_markBreaking 65 = .ok (.istore 6, 2) := by decide +kernel
theorem dX6_markBreaking_67 : decode cX6_markBreaking 67 = .ok (.aload_n 0, 1) := by decide +kernel
theorem dX6_markBreaking_68 : decode cX6_markBreaking 68 = .ok (.getfield 28, 3) := by decide +kernel
theorem dX6_markBreaking_71 : decode cX6_markBreaking 71 = .ok (.iload 5, 2) := by decide +kernel
theorem dX6_markBreaking_73 : decode cX6_markBreaking 73 = .ok (.iload 6, 2) := by decide +kernel
theorem dX6_markBreaking_75 : decode cX6_markBreaking 75 = .ok (.ifCond .eq 17, 3) := by decide +kernel
theorem dX6_markBreaking_78 : decode cX6_markBreaking 78 = .ok (.aload_n 0, 1) := by decide +kernel
theorem dX6_markBreaking_79 : decode cX6_markBreaking 79 = .ok (.getfield 24, 3) := by decide +kernel
theorem dX6_markBreaking_82 : decode cX6_markBreaking 82 = .ok (.iload 5, 2) := by decide +kernel
theorem dX6_markBreaking_84 : decode cX6_markBreaking 84 = .ok (.baload, 1) := by decide +kernel
theorem dX6_markBreaking_85 : decode cX6_markBreaking 85 = .ok (.ifCond .ne 7, 3) := by decide +kernel
theorem dX6_markBreaking_92 : decode cX6_markBreaking 92 = .ok (.iconst 0, 1) := by decide +kernel
theorem dX6_markBreaking_93 : decode cX6_markBreaking 93 = .ok (.bastore, 1) := by decide +kernel
theorem dX6_markBreaking_94 : decode cX6_markBreaking 94 = .ok (.iload_n 2, 1) := by decide +kernel
theorem dX6_markBreaking_95 : decode cX6_markBreaking 95 = .ok (.ifCond .ne 13, 3) := by decide +kernel
theorem dX6_markBreaking_108 : decode cX6_markBreaking 108 = .ok (.iconst 1, 1) := by decide +kernel
theorem dX6_markBreaking_109 : decode cX6_markBreaking 109 = .ok (.goto 4, 3) := by decide +kernel
theorem dX6_markBreaking_113 : decode cX6_markBreaking 113 = .ok (.istore_n 2, 1) := by decide +kernel
theorem dX6_markBreaking_114 : decode cX6_markBreaking 114 = .ok (.iinc 4 1, 3) := by decide +kernel
theorem dX6_markBreaking_117 : decode cX6_markBreaking 117 = .ok (.goto (-102), 3) := by decide +kernel
theorem dX6_markBreaking_98 : decode cX6_markBreaking 98 = .ok (.aload_n 0, 1) := by decide +kernel
theorem dX6_markBreaking_99 : decode cX6_markBreaking 99 = .ok (.getfield 28, 3) := by decide +kernel
theorem dX6_markBreaking_102 : decode cX6_markBreaking 102 = .ok (.iload 5, 2) := by decide +kernel
theorem dX6_markBreaking_104 : decode cX6_markBreaking 104 = .ok (.baload, 1) := by decide +kernel
theorem dX6_markBreaking_105 : decode cX6_markBreaking 105 = .ok (.ifCond .eq 7, 3) := by decide +kernel
theorem dX6_markBreaking_112 : decode cX6_markBreaking 112 = .ok (.iconst 0, 1) := by decide +kernel
theorem dX6_markBreaking_88 : decode cX6_markBreaking 88 = .ok (.iconst 1, 1) := by decide +kernel
theorem dX6_markBreaking_89 : decode cX6_markBreaking 89 = .ok (.goto 4, 3) := by decide +kernel
theorem dX6_markBreaking_50 : decode cX6_markBreaking 50 = .ok (.aload_n 0, 1) := by decide +kernel
theorem dX6_markBreaking_51 : decode cX6_markBreaking 51 = .ok (.getfield 15, 3) := by decide +kernel
theorem dX6_markBreaking_54 : decode cX6_markBreaking 54 = .ok (.iload 5, 2) := by decide +kernel
theorem dX6_markBreaking_56 : decode cX6_markBreaking 56 = .ok (.iaload, 1) := by decide +kernel
theorem dX6_markBreaking_57 : decode cX6_markBreaking 57 = .ok (.ifCond .ne 7, 3) := by decide +kernel
theorem dX6_markBreaking_64 : decode cX6_markBreaking 64 = .ok (.iconst 0, 1) := by decide +kernel
theorem dX6_markBreaking_4 : decode cX6_markBreaking 4 = .ok (.iload_n 3, 1) := by decide +kernel
theorem dX6_markBreaking_5 : decode cX6_markBreaking 5 = .ok (.aload_n 0, 1) := by decide +kernel
theorem dX6_markBreaking_6 : decode cX6_markBreaking 6 = .ok (.getfield 39, 3) := by decide +kernel
theorem dX6_markBreaking_9 : decode cX6_markBreaking 9 = .ok (.if_icmp .ge 117, 3) := by decide +kernel
theorem dX6_markBreaking_12 : decode cX6_markBreaking 12 = .ok (.iconst 0, 1) := by decide +kernel
theorem dX6_markBreaking_13 : decode cX6_markBreaking 13 = .ok (.istore 4, 2) := by decide +kernel
theorem dX6_markBreaking_120 : decode cX6_markBreaking 120 = .ok (.iinc 3 1, 3) := by decide +kernel
theorem dX6_markBreaking_123 : decode cX6_markBreaking 123 = .ok (.goto (-119), 3) := by decide +kernel
theorem dX6_markBreaking_0 : decode cX6_markBreaking 0 = .ok (.iconst 0, 1) := by decide +kernel
theorem dX6_markBreaking_1 : decode cX6_markBreaking 1 = .ok (.istore_n 2, 1) := by decide +kernel
theorem dX6_markBreaking_2 : decode cX6_markBreaking 2 = .ok (.iconst 0, 1) := by decide +kernel
theorem dX6_markBreaking_3 : decode cX6_markBreaking 3 = .ok (.istore_n 3, 1) := by decide +kernel
theorem dX6_markBreaking_126 : decode cX6_markBreaking 126 = .ok (.iload_n 2, 1) := by decide +kernel
theorem dX6_markBreaking_127 : decode cX6_markBreaking 127 = .ok (.ireturn, 1) := by decide +kernel
theorem dX6_crackIfMarked_0 : decode cX6_crackIfMarked 0 = .ok (.aload_n 0, 1) := by decide +kernel
theorem dX6_crackIfMarked_1 : decode cX6_crackIfMarked 1 = .ok (.iload_n 1, 1) := by decide +kernel
theorem dX6_crackIfMarked_2 : decode cX6_crackIfMarked 2 = .ok (.iload_n 2, 1) := by decide +kernel
theorem dX6_crackIfMarked_3 : decode cX6_crackIfMarked 3 = .ok (.invokevirtual 42, 3) := by decide +kernel
theorem dX6_crackIfMarked_6 : decode cX6_crackIfMarked 6 = .ok (.ifCond .eq 17, 3) := by decide +kernel
theorem dX6_crackIfMarked_9 : decode cX6_crackIfMarked 9 = .ok (.aload_n 0, 1) := by decide +kernel
theorem dX6_crackIfMarked_10 : decode cX6_crackIfMarked 10 = .ok (.getfield 28, 3) := by decide +kernel
theorem dX6_crackIfMarked_13 : decode cX6_crackIfMarked 13 = .ok (.aload_n 0, 1) := by decide +kernel
theorem dX6_crackIfMarked_14 : decode cX6_crackIfMarked 14 = .ok (.iload_n 1, 1) := by decide +kernel
theorem dX6_crackIfMarked_15 : decode cX6_crackIfMarked 15 = .ok (.iload_n 2, 1) := by decide +kernel
theorem dX6_crackIfMarked_16 : decode cX6_crackIfMarked 16 = .ok (.invokevirtual 46, 3) := by decide +kernel
theorem dX6_crackIfMarked_19 : decode cX6_crackIfMarked 19 = .ok (.baload, 1) := by decide +kernel
theorem dX6_crackIfMarked_20 : decode cX6_crackIfMarked 20 = .ok (.ifCond .ne 5, 3) := by decide +kernel
theorem dX6_crackIfMarked_25 : decode cX6_crackIfMarked 25 = .ok (.aload_n 0, 1) := by decide +kernel
theorem dX6_crackIfMarked_26 : decode cX6_crackIfMarked 26 = .ok (.getfield 24, 3) := by decide +kernel
theorem dX6_crackIfMarked_29 : decode cX6_crackIfMarked 29 = .ok (.aload_n 0, 1) := by decide +kernel
theorem dX6_crackIfMarked_30 : decode cX6_crackIfMarked 30 = .ok (.iload_n 1, 1) := by decide +kernel
theorem dX6_crackIfMarked_31 : decode cX6_crackIfMarked 31 = .ok (.iload_n 2, 1) := by decide +kernel
theorem dX6_crackIfMarked_32 : decode cX6_crackIfMarked 32 = .ok (.invokevirtual 46, 3) := by decide +kernel
theorem dX6_crackIfMarked_35 : decode cX6_crackIfMarked 35 = .ok (.iconst 1, 1) := by decide +kernel
theorem dX6_crackIfMarked_36 : decode cX6_crackIfMarked 36 = .ok (.bastore, 1) := by decide +kernel
theorem dX6_crackIfMarked_37 : decode cX6_crackIfMarked 37 = .ok (.iconst 1, 1) := by decide +kernel
theorem dX6_crackIfMarked_38 : decode cX6_crackIfMarked 38 = .ok (.ireturn, 1) := by decide +kernel
theorem dX6_crackIfMarked_23 : decode cX6_crackIfMarked 23 = .ok (.iconst 0, 1) := by decide +kernel
theorem dX6_crackIfMarked_24 : decode cX6_crackIfMarked 24 = .ok (.ireturn, 1) := by decide +kernel