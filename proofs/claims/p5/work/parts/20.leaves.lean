theorem dX6_has_0 : decode cX6_has 0 = .ok (.iload_n 1, 1) := by decide +kernel
theorem dX6_has_1 : decode cX6_has 1 = .ok (.ifCond .lt 27, 3) := by decide +kernel
theorem dX6_has_4 : decode cX6_has 4 = .ok (.iload_n 1, 1) := by decide +kernel
theorem dX6_has_5 : decode cX6_has 5 = .ok (.aload_n 0, 1) := by decide +kernel
theorem dX6_has_6 : decode cX6_has 6 = .ok (.getfield 35, 3) := by decide +kernel
theorem dX6_has_9 : decode cX6_has 9 = .ok (.if_icmp .ge 19, 3) := by decide +kernel
theorem dX6_has_12 : decode cX6_has 12 = .ok (.iload_n 2, 1) := by decide +kernel
theorem dX6_has_13 : decode cX6_has 13 = .ok (.ifCond .lt 15, 3) := by decide +kernel
theorem dX6_has_16 : decode cX6_has 16 = .ok (.iload_n 2, 1) := by decide +kernel
theorem dX6_has_17 : decode cX6_has 17 = .ok (.aload_n 0, 1) := by decide +kernel
theorem dX6_has_18 : decode cX6_has 18 = .ok (.getfield 39, 3) := by decide +kernel
theorem dX6_has_21 : decode cX6_has 21 = .ok (.if_icmp .ge 7, 3) := by decide +kernel
theorem dX6_has_24 : decode cX6_has 24 = .ok (.iconst 1, 1) := by decide +kernel
theorem dX6_has_25 : decode cX6_has 25 = .ok (.goto 4, 3) := by decide +kernel
theorem dX6_has_29 : decode cX6_has 29 = .ok (.ireturn, 1) := by decide +kernel
set_option maxHeartbeats 4000000 in
set_option maxRecDepth 100000 in
theorem c_has_in (l : Launch) (D : va_G) (h0 : Nat) (q1 : Nat) (q2 : Nat) (q3 : Nat) (q4 : Nat) (q5 : Nat) (q6 : Nat) (w : Nat) (h : Nat) (i : Nat) (j : Nat) (hw : w < 2 ^ 31) (hh : h < 2 ^ 31) (hi : i < w) (hj : j < h) : cI l yX6_has (.code yX6_has cX6_has 3 (some .boolean)) ({ frames := 0, cells := 0, slots := 0, locals := 0 }) D [] [(h0, .inr (5, [.int (nI w), .int (nI h), .ref q1, .ref q2, .ref q3, .ref q4, .ref q5, .ref q6]))] xT [.ref h0, .int (nI i), .int (nI j)] (S := Unit) (fun r _ => r = 1) (fun _ => []) (fun _ => [(h0, .inr (5, [.int (nI w), .int (nI h), .ref q1, .ref q2, .ref q3, .ref q4, .ref q5, .ref q6]))]) := by
  intro sz
  refine Met.ofW (cc := cX6_has) (maxL := 3) (ret := (some .boolean)) (by decide) rfl ?_
  intro p e s m args below meth c s₁ B hml hv
  obtain ⟨rfl, hsz, hP, hK, hD0, hX⟩ := hv
  have hx := B.exec
  have hb := B.bytes
  have hr := B.returns
  have hts0 := atoms_spec (ws := .code yX6_has cX6_has 3 (some .boolean) :: gw) B.pre
  have hts := fun (w : Cond) (h : w ∈ gw) => hts0 w (List.mem_cons_of_mem _ h)
  have hown : s.vm.findClass RX6 = some m.cls := findClass_of_methodNamed B.named
  have hlocks := B.notSynchronized
  have F : mFix p s m _ c cX6_has 3 RX6 := ⟨hx, hb, hml, hown, hts⟩
  subst hsz
  have hD := hD0.self (sz := s.heap.size)
  generalize hAe : va_A [(h0, .inr (5, [.int (nI w), .int (nI h), .ref q1, .ref q2, .ref q3, .ref q4, .ref q5, .ref q6]))] s.heap.size = A at hD hX ⊢
  have hA : ∀ q : Nat, s.heap.size ≤ q → A q := fun q h => by rw [← hAe]; exact Or.inr h
  have hS : va_S A s.heap s.heap [] := va_S.rf
  have hl := lv_entry ([.ref h0, .int (nI i), .int (nI j)]) (n := 3) (Nat.le_of_ble_eq_true rfl)
  rw [lg_entry_eq]
  generalize (lg_sl ([.ref h0, .int (nI i), .int (nI j)]) ++ List.replicate (3 - (lg_sl ([.ref h0, .int (nI i), .int (nI j)])).length) Slot.unset).toArray = ls at hl ⊢
  have hl : lv_has ls 3 [(0, .ref h0), (1, .int (nI i)), (2, .int (nI j))] := hl
  have hP : va_P D vwCl [(h0, .inr (5, [.int (nI w), .int (nI h), .ref q1, .ref q2, .ref q3, .ref q4, .ref q5, .ref q6]))] s.heap := hP
  refine lv_iload_n hx hb dX6_has_0 rfl (lv_at hl 1 rfl) ?_
  refine lv_if_lt (tgt := 28) hx hb dX6_has_1 (by decide) (fun c_1 => absurd c_1 (nI_pos (by omega))) (fun c_1 => ?_)
  have c_1n : 0 ≤ i := nb_lt (by omega) (by omega) c_1
  refine lv_iload_n hx hb dX6_has_4 rfl (lv_at hl 1 rfl) ?_
  refine lv_aload_n hx hb dX6_has_5 rfl (lv_at hl 0 rfl) ?_
  refine va_get (D := D) (ci := 5) (v := .int (nI w)) (C := RX6) (T := TX6) (N := 8) hx hb hts inG_X6 hown hK hP 0 rfl rfl 0 (by decide) (hts _ kw_1_142) (fun _ h9 => h9) rfl dX6_has_6 ?_
  refine lv_icmp_ge (tgt := 28) hx hb dX6_has_9 (by decide) (fun c_2 => absurd ((nI_leI (by omega) (by omega)).mp c_2) (by omega)) (fun c_2 => ?_)
  have c_2n : i < w := nb_le (by omega) (by omega) c_2
  have c_2 := Int32.not_le.mp c_2
  refine lv_iload_n hx hb dX6_has_12 rfl (lv_at hl 2 rfl) ?_
  refine lv_if_lt (tgt := 28) hx hb dX6_has_13 (by decide) (fun c_3 => absurd c_3 (nI_pos (by omega))) (fun c_3 => ?_)
  have c_3n : 0 ≤ j := nb_lt (by omega) (by omega) c_3
  refine lv_iload_n hx hb dX6_has_16 rfl (lv_at hl 2 rfl) ?_
  refine lv_aload_n hx hb dX6_has_17 rfl (lv_at hl 0 rfl) ?_
  refine va_get (D := D) (ci := 5) (v := .int (nI h)) (C := RX6) (T := TX6) (N := 8) hx hb hts inG_X6 hown hK hP 0 rfl rfl 1 (by decide) (hts _ kw_1_145) (fun _ h9 => h9) rfl dX6_has_18 ?_
  refine lv_icmp_ge (tgt := 28) hx hb dX6_has_21 (by decide) (fun c_4 => absurd ((nI_leI (by omega) (by omega)).mp c_4) (by omega)) (fun c_4 => ?_)
  have c_4n : j < h := nb_le (by omega) (by omega) c_4
  have c_4 := Int32.not_le.mp c_4
  refine lv_iconst (v := 1) hx hb dX6_has_24 (by decide) ?_
  refine lv_goto (tgt := 29) hx hb dX6_has_25 (by decide) ?_
  have hP9 := hP.sub (ws' := [(h0, .inr (5, [.int (nI w), .int (nI h), .ref q1, .ref q2, .ref q3, .ref q4, .ref q5, .ref q6]))]) [0] rfl
  have hD9 := hD.sub (ws' := [(h0, .inr (5, [.int (nI w), .int (nI h), .ref q1, .ref q2, .ref q3, .ref q4, .ref q5, .ref q6]))]) [0] (by decide) rfl
  have hK9 := hK.sub (tys' := []) [] rfl
  refine W.widen (k := 0) (n := 0) (by decide) (by decide) ?_
  exact W.zret (v := 1) hx hb hr rfl (fun t ht hW => ⟨⟨1, (), rfl, rfl, by rw [ht]; exact hP9, va_K.moved hW.alike hK9, hD9⟩, hS.F ht⟩) hS.2.2 dX6_has_29
theorem dX6_has_28 : decode cX6_has 28 = .ok (.iconst 0, 1) := by decide +kernel
set_option maxHeartbeats 4000000 in
set_option maxRecDepth 100000 in
theorem c_has_any (l : Launch) (D : va_G) (h0 : Nat) (q1 : Nat) (q2 : Nat) (q3 : Nat) (q4 : Nat) (q5 : Nat) (q6 : Nat) (w : Nat) (h : Nat) (x : Int32) (y : Int32) (hw : w < 2 ^ 31) (hh : h < 2 ^ 31) : cI l yX6_has (.code yX6_has cX6_has 3 (some .boolean)) ({ frames := 0, cells := 0, slots := 0, locals := 0 }) D [] [(h0, .inr (5, [.int (nI w), .int (nI h), .ref q1, .ref q2, .ref q3, .ref q4, .ref q5, .ref q6]))] xT [.ref h0, .int x, .int y] (S := Unit) (fun r _ => r = (if (x < 0 ∨ ¬ x < nI w ∨ y < 0 ∨ ¬ y < nI h) then 0 else 1)) (fun _ => []) (fun _ => [(h0, .inr (5, [.int (nI w), .int (nI h), .ref q1, .ref q2, .ref q3, .ref q4, .ref q5, .ref q6]))]) := by
  intro sz
  refine Met.ofW (cc := cX6_has) (maxL := 3) (ret := (some .boolean)) (by decide) rfl ?_
  intro p e s m args below meth c s₁ B hml hv
  obtain ⟨rfl, hsz, hP, hK, hD0, hX⟩ := hv
  have hx := B.exec
  have hb := B.bytes
  have hr := B.returns
  have hts0 := atoms_spec (ws := .code yX6_has cX6_has 3 (some .boolean) :: gw) B.pre
  have hts := fun (w : Cond) (h : w ∈ gw) => hts0 w (List.mem_cons_of_mem _ h)
  have hown : s.vm.findClass RX6 = some m.cls := findClass_of_methodNamed B.named
  have hlocks := B.notSynchronized
  have F : mFix p s m _ c cX6_has 3 RX6 := ⟨hx, hb, hml, hown, hts⟩
  subst hsz
  have hD := hD0.self (sz := s.heap.size)
  generalize hAe : va_A [(h0, .inr (5, [.int (nI w), .int (nI h), .ref q1, .ref q2, .ref q3, .ref q4, .ref q5, .ref q6]))] s.heap.size = A at hD hX ⊢
  have hA : ∀ q : Nat, s.heap.size ≤ q → A q := fun q h => by rw [← hAe]; exact Or.inr h
  have hS : va_S A s.heap s.heap [] := va_S.rf
  have hl := lv_entry ([.ref h0, .int x, .int y]) (n := 3) (Nat.le_of_ble_eq_true rfl)
  rw [lg_entry_eq]
  generalize (lg_sl ([.ref h0, .int x, .int y]) ++ List.replicate (3 - (lg_sl ([.ref h0, .int x, .int y])).length) Slot.unset).toArray = ls at hl ⊢
  have hl : lv_has ls 3 [(0, .ref h0), (1, .int x), (2, .int y)] := hl
  have hP : va_P D vwCl [(h0, .inr (5, [.int (nI w), .int (nI h), .ref q1, .ref q2, .ref q3, .ref q4, .ref q5, .ref q6]))] s.heap := hP
  refine lv_iload_n hx hb dX6_has_0 rfl (lv_at hl 1 rfl) ?_
  refine lv_if_lt (tgt := 28) hx hb dX6_has_1 (by decide) (fun c_1 => ?_) (fun c_1 => ?_)
  · skip
    refine lv_iconst (v := 0) hx hb dX6_has_28 (by decide) ?_
    have hP9 := hP.sub (ws' := [(h0, .inr (5, [.int (nI w), .int (nI h), .ref q1, .ref q2, .ref q3, .ref q4, .ref q5, .ref q6]))]) [0] rfl
    have hD9 := hD.sub (ws' := [(h0, .inr (5, [.int (nI w), .int (nI h), .ref q1, .ref q2, .ref q3, .ref q4, .ref q5, .ref q6]))]) [0] (by decide) rfl
    have hK9 := hK.sub (tys' := []) [] rfl
    refine W.widen (k := 0) (n := 0) (by decide) (by decide) ?_
    exact W.zret (v := 0) hx hb hr rfl (fun t ht hW => ⟨⟨0, (), rfl, by simp only [c_1, or_false, false_or, or_true, true_or, not_true_eq_false, not_false_eq_true, ↓reduceIte], by rw [ht]; exact hP9, va_K.moved hW.alike hK9, hD9⟩, hS.F ht⟩) hS.2.2 dX6_has_29
  · skip
    refine lv_iload_n hx hb dX6_has_4 rfl (lv_at hl 1 rfl) ?_
    refine lv_aload_n hx hb dX6_has_5 rfl (lv_at hl 0 rfl) ?_
    refine va_get (D := D) (ci := 5) (v := .int (nI w)) (C := RX6) (T := TX6) (N := 8) hx hb hts inG_X6 hown hK hP 0 rfl rfl 0 (by decide) (hts _ kw_1_142) (fun _ h9 => h9) rfl dX6_has_6 ?_
    refine lv_icmp_ge (tgt := 28) hx hb dX6_has_9 (by decide) (fun c_2 => ?_) (fun c_2 => ?_)
    · skip
      have c_2 := Int32.not_lt.mpr c_2
      refine lv_iconst (v := 0) hx hb dX6_has_28 (by decide) ?_
      have hP9 := hP.sub (ws' := [(h0, .inr (5, [.int (nI w), .int (nI h), .ref q1, .ref q2, .ref q3, .ref q4, .ref q5, .ref q6]))]) [0] rfl
      have hD9 := hD.sub (ws' := [(h0, .inr (5, [.int (nI w), .int (nI h), .ref q1, .ref q2, .ref q3, .ref q4, .ref q5, .ref q6]))]) [0] (by decide) rfl
      have hK9 := hK.sub (tys' := []) [] rfl
      refine W.widen (k := 0) (n := 0) (by decide) (by decide) ?_
      exact W.zret (v := 0) hx hb hr rfl (fun t ht hW => ⟨⟨0, (), rfl, by simp only [c_1, c_2, or_false, false_or, or_true, true_or, not_true_eq_false, not_false_eq_true, ↓reduceIte], by rw [ht]; exact hP9, va_K.moved hW.alike hK9, hD9⟩, hS.F ht⟩) hS.2.2 dX6_has_29
    · skip
      have c_2 := Int32.not_le.mp c_2
      refine lv_iload_n hx hb dX6_has_12 rfl (lv_at hl 2 rfl) ?_
      refine lv_if_lt (tgt := 28) hx hb dX6_has_13 (by decide) (fun c_3 => ?_) (fun c_3 => ?_)
      · skip
        refine lv_iconst (v := 0) hx hb dX6_has_28 (by decide) ?_
        have hP9 := hP.sub (ws' := [(h0, .inr (5, [.int (nI w), .int (nI h), .ref q1, .ref q2, .ref q3, .ref q4, .ref q5, .ref q6]))]) [0] rfl
        have hD9 := hD.sub (ws' := [(h0, .inr (5, [.int (nI w), .int (nI h), .ref q1, .ref q2, .ref q3, .ref q4, .ref q5, .ref q6]))]) [0] (by decide) rfl
        have hK9 := hK.sub (tys' := []) [] rfl
        refine W.widen (k := 0) (n := 0) (by decide) (by decide) ?_
        exact W.zret (v := 0) hx hb hr rfl (fun t ht hW => ⟨⟨0, (), rfl, by simp only [c_1, c_2, c_3, or_false, false_or, or_true, true_or, not_true_eq_false, not_false_eq_true, ↓reduceIte], by rw [ht]; exact hP9, va_K.moved hW.alike hK9, hD9⟩, hS.F ht⟩) hS.2.2 dX6_has_29
      · skip
        refine lv_iload_n hx hb dX6_has_16 rfl (lv_at hl 2 rfl) ?_
        refine lv_aload_n hx hb dX6_has_17 rfl (lv_at hl 0 rfl) ?_
        refine va_get (D := D) (ci := 5) (v := .int (nI h)) (C := RX6) (T := TX6) (N := 8) hx hb hts inG_X6 hown hK hP 0 rfl rfl 1 (by decide) (hts _ kw_1_145) (fun _ h9 => h9) rfl dX6_has_18 ?_
        refine lv_icmp_ge (tgt := 28) hx hb dX6_has_21 (by decide) (fun c_4 => ?_) (fun c_4 => ?_)
        · skip
          have c_4 := Int32.not_lt.mpr c_4
          refine lv_iconst (v := 0) hx hb dX6_has_28 (by decide) ?_
          have hP9 := hP.sub (ws' := [(h0, .inr (5, [.int (nI w), .int (nI h), .ref q1, .ref q2, .ref q3, .ref q4, .ref q5, .ref q6]))]) [0] rfl
          have hD9 := hD.sub (ws' := [(h0, .inr (5, [.int (nI w), .int (nI h), .ref q1, .ref q2, .ref q3, .ref q4, .ref q5, .ref q6]))]) [0] (by decide) rfl
          have hK9 := hK.sub (tys' := []) [] rfl
          refine W.widen (k := 0) (n := 0) (by decide) (by decide) ?_
          exact W.zret (v := 0) hx hb hr rfl (fun t ht hW => ⟨⟨0, (), rfl, by simp only [c_1, c_2, c_3, c_4, or_false, false_or, or_true, true_or, not_true_eq_false, not_false_eq_true, ↓reduceIte], by rw [ht]; exact hP9, va_K.moved hW.alike hK9, hD9⟩, hS.F ht⟩) hS.2.2 dX6_has_29
        · skip
          have c_4 := Int32.not_le.mp c_4
          refine lv_iconst (v := 1) hx hb dX6_has_24 (by decide) ?_
          refine lv_goto (tgt := 29) hx hb dX6_has_25 (by decide) ?_
          have hP9 := hP.sub (ws' := [(h0, .inr (5, [.int (nI w), .int (nI h), .ref q1, .ref q2, .ref q3, .ref q4, .ref q5, .ref q6]))]) [0] rfl
          have hD9 := hD.sub (ws' := [(h0, .inr (5, [.int (nI w), .int (nI h), .ref q1, .ref q2, .ref q3, .ref q4, .ref q5, .ref q6]))]) [0] (by decide) rfl
          have hK9 := hK.sub (tys' := []) [] rfl
          refine W.widen (k := 0) (n := 0) (by decide) (by decide) ?_
          exact W.zret (v := 1) hx hb hr rfl (fun t ht hW => ⟨⟨1, (), rfl, by simp only [c_1, c_2, c_3, c_4, or_false, false_or, or_true, true_or, not_true_eq_false, not_false_eq_true, ↓reduceIte], by rw [ht]; exact hP9, va_K.moved hW.alike hK9, hD9⟩, hS.F ht⟩) hS.2.2 dX6_has_29
theorem dX6_spotOf_0 : decode cX6_spotOf 0 = .ok (.iload_n 2, 1) := by decide +kernel
theorem dX6_spotOf_1 : decode cX6_spotOf 1 = .ok (.bipush 10, 2) := by decide +kernel
theorem dX6_spotOf_3 : decode cX6_spotOf 3 = .ok (.imul, 1) := by decide +kernel
theorem dX6_spotOf_4 : decode cX6_spotOf 4 = .ok (.iload_n 1, 1) := by decide +kernel
theorem dX6_spotOf_5 : decode cX6_spotOf 5 = .ok (.iadd, 1) := by decide +kernel
theorem dX6_spotOf_6 : decode cX6_spotOf 6 = .ok (.ireturn, 1) := by decide +kernel
set_option maxHeartbeats 4000000 in
set_option maxRecDepth 100000 in
theorem c_spotOf (l : Launch) (D : va_G) (h0 : Nat) (q1 : Nat) (q2 : Nat) (q3 : Nat) (q4 : Nat) (q5 : Nat) (q6 : Nat) (w : Nat) (h : Nat) (i : Nat) (j : Nat) : cI l yX6_spotOf (.code yX6_spotOf cX6_spotOf 3 (some .int)) ({ frames := 0, cells := 0, slots := 0, locals := 0 }) D [] [(h0, .inr (5, [.int (nI w), .int (nI h), .ref q1, .ref q2, .ref q3, .ref q4, .ref q5, .ref q6]))] xT [.ref h0, .int (nI i), .int (nI j)] (S := Unit) (fun r _ => r = nI (j * 10 + i)) (fun _ => []) (fun _ => [(h0, .inr (5, [.int (nI w), .int (nI h), .ref q1, .ref q2, .ref q3, .ref q4, .ref q5, .ref q6]))]) := by
  intro sz
  refine Met.ofW (cc := cX6_spotOf) (maxL := 3) (ret := (some .int)) (by decide) rfl ?_
  intro p e s m args below meth c s₁ B hml hv
  obtain ⟨rfl, hsz, hP, hK, hD0, hX⟩ := hv
  have hx := B.exec
  have hb := B.bytes
  have hr := B.returns
  have hts0 := atoms_spec (ws := .code yX6_spotOf cX6_spotOf 3 (some .int) :: gw) B.pre
  have hts := fun (w : Cond) (h : w ∈ gw) => hts0 w (List.mem_cons_of_mem _ h)
  have hown : s.vm.findClass RX6 = some m.cls := findClass_of_methodNamed B.named
  have hlocks := B.notSynchronized
  have F : mFix p s m _ c cX6_spotOf 3 RX6 := ⟨hx, hb, hml, hown, hts⟩
  subst hsz
  have hD := hD0.self (sz := s.heap.size)
  generalize hAe : va_A [(h0, .inr (5, [.int (nI w), .int (nI h), .ref q1, .ref q2, .ref q3, .ref q4, .ref q5, .ref q6]))] s.heap.size = A at hD hX ⊢
  have hA : ∀ q : Nat, s.heap.size ≤ q → A q := fun q h => by rw [← hAe]; exact Or.inr h
  have hS : va_S A s.heap s.heap [] := va_S.rf
  have hl := lv_entry ([.ref h0, .int (nI i), .int (nI j)]) (n := 3) (Nat.le_of_ble_eq_true rfl)
  rw [lg_entry_eq]
  generalize (lg_sl ([.ref h0, .int (nI i), .int (nI j)]) ++ List.replicate (3 - (lg_sl ([.ref h0, .int (nI i), .int (nI j)])).length) Slot.unset).toArray = ls at hl ⊢
  have hl : lv_has ls 3 [(0, .ref h0), (1, .int (nI i)), (2, .int (nI j))] := hl
  have hP : va_P D vwCl [(h0, .inr (5, [.int (nI w), .int (nI h), .ref q1, .ref q2, .ref q3, .ref q4, .ref q5, .ref q6]))] s.heap := hP
  refine lv_iload_n hx hb dX6_spotOf_0 rfl (lv_at hl 2 rfl) ?_
  refine lv_bipush (v := 10) hx hb dX6_spotOf_1 (by decide) ?_
  refine lv_imul hx hb dX6_spotOf_3 ?_
  refine lv_topi (fun z_1 ez_1 => ?_)
  obtain rfl : z_1 = nI (j * 10) := ez_1.trans (pk_mul j 10)
  refine lv_iload_n hx hb dX6_spotOf_4 rfl (lv_at hl 1 rfl) ?_
  refine lv_iadd hx hb dX6_spotOf_5 ?_
  refine lv_topi (fun z_2 ez_2 => ?_)
  obtain rfl : z_2 = nI (j * 10 + i) := ez_2.trans (nI_add (j * 10) i)
  have hP9 := hP.sub (ws' := [(h0, .inr (5, [.int (nI w), .int (nI h), .ref q1, .ref q2, .ref q3, .ref q4, .ref q5, .ref q6]))]) [0] rfl
  have hD9 := hD.sub (ws' := [(h0, .inr (5, [.int (nI w), .int (nI h), .ref q1, .ref q2, .ref q3, .ref q4, .ref q5, .ref q6]))]) [0] (by decide) rfl
  have hK9 := hK.sub (tys' := []) [] rfl
  refine W.widen (k := 0) (n := 0) (by decide) (by decide) ?_
  exact W.iret (v := nI (j * 10 + i)) hx hb hr (fun t ht hW => ⟨⟨(nI (j * 10 + i)), (), rfl, rfl, by rw [ht]; exact hP9, va_K.moved hW.alike hK9, hD9⟩, hS.F ht⟩) hS.2.2 dX6_spotOf_6
theorem dX6_bearing_0 : decode cX6_bearing 0 = .ok (.aload_n 0, 1) := by decide +kernel
theorem dX6_bearing_1 : decode cX6_bearing 1 = .ok (.getfield 9, 3) := by decide +kernel
theorem dX6_bearing_4 : decode cX6_bearing 4 = .ok (.iload_n 1, 1) := by decide +kernel
theorem dX6_bearing_5 : decode cX6_bearing 5 = .ok (.iaload, 1) := by decide +kernel
theorem dX6_bearing_6 : decode cX6_bearing 6 = .ok (.aload_n 0, 1) := by decide +kernel
theorem dX6_bearing_7 : decode cX6_bearing 7 = .ok (.getfield 9, 3) := by decide +kernel
theorem dX6_bearing_10 : decode cX6_bearing 10 = .ok (.iload_n 1, 1) := by decide +kernel
theorem dX6_bearing_11 : decode cX6_bearing 11 = .ok (.iaload, 1) := by decide +kernel
theorem dX6_bearing_12 : decode cX6_bearing 12 = .ok (.imul, 1) := by decide +kernel
theorem dX6_bearing_13 : decode cX6_bearing 13 = .ok (.iload_n 2, 1) := by decide +kernel
theorem dX6_bearing_14 : decode cX6_bearing 14 = .ok (.imul, 1) := by decide +kernel
theorem dX6_bearing_15 : decode cX6_bearing 15 = .ok (.bipush 100, 2) := by decide +kernel
theorem dX6_bearing_17 : decode cX6_bearing 17 = .ok (.idiv, 1) := by decide +kernel
theorem dX6_bearing_18 : decode cX6_bearing 18 = .ok (.ireturn, 1) := by decide +kernel
set_option maxHeartbeats 4000000 in
set_option maxRecDepth 100000 in
theorem c_bearing (l : Launch) (D : va_G) (h0 : Nat) (q1 : Nat) (q2 : Nat) (q3 : Nat) (q4 : Nat) (q5 : Nat) (q6 : Nat) (cy1 : ClassId) (f1 : Nat → Int32) (w : Nat) (h : Nat) (j : Nat) (b : Int32) (hj : j < 100) : cI l yX6_bearing (.code yX6_bearing cX6_bearing 3 (some .int)) ({ frames := 0, cells := 0, slots := 0, locals := 0 }) D [(cy1, .int)] [(h0, .inr (5, [.int (nI w), .int (nI h), .ref q1, .ref q2, .ref q3, .ref q4, .ref q5, .ref q6])), (q1, .inl (cy1, 100, .inl f1))] xT [.ref h0, .int (nI j), .int b] (S := Unit) (fun r _ => r = f1 j * f1 j * b / 100) (fun _ => []) (fun _ => [(h0, .inr (5, [.int (nI w), .int (nI h), .ref q1, .ref q2, .ref q3, .ref q4, .ref q5, .ref q6])), (q1, .inl (cy1, 100, .inl f1))]) := by
  intro sz
  refine Met.ofW (cc := cX6_bearing) (maxL := 3) (ret := (some .int)) (by decide) rfl ?_
  intro p e s m args below meth c s₁ B hml hv
  obtain ⟨rfl, hsz, hP, hK, hD0, hX⟩ := hv
  have hx := B.exec
  have hb := B.bytes
  have hr := B.returns
  have hts0 := atoms_spec (ws := .code yX6_bearing cX6_bearing 3 (some .int) :: gw) B.pre
  have hts := fun (w : Cond) (h : w ∈ gw) => hts0 w (List.mem_cons_of_mem _ h)
  have hown : s.vm.findClass RX6 = some m.cls := findClass_of_methodNamed B.named
  have hlocks := B.notSynchronized
  have F : mFix p s m _ c cX6_bearing 3 RX6 := ⟨hx, hb, hml, hown, hts⟩
  subst hsz
  have hD := hD0.self (sz := s.heap.size)
  generalize hAe : va_A [(h0, .inr (5, [.int (nI w), .int (nI h), .ref q1, .ref q2, .ref q3, .ref q4, .ref q5, .ref q6])), (q1, .inl (cy1, 100, .inl f1))] s.heap.size = A at hD hX ⊢
  have hA : ∀ q : Nat, s.heap.size ≤ q → A q := fun q h => by rw [← hAe]; exact Or.inr h
  have hS : va_S A s.heap s.heap [] := va_S.rf
  have hl := lv_entry ([.ref h0, .int (nI j), .int b]) (n := 3) (Nat.le_of_ble_eq_true rfl)
  rw [lg_entry_eq]
  generalize (lg_sl ([.ref h0, .int (nI j), .int b]) ++ List.replicate (3 - (lg_sl ([.ref h0, .int (nI j), .int b])).length) Slot.unset).toArray = ls at hl ⊢
  have hl : lv_has ls 3 [(0, .ref h0), (1, .int (nI j)), (2, .int b)] := hl
  have hP : va_P D vwCl [(h0, .inr (5, [.int (nI w), .int (nI h), .ref q1, .ref q2, .ref q3, .ref q4, .ref q5, .ref q6])), (q1, .inl (cy1, 100, .inl f1))] s.heap := hP
  refine lv_aload_n hx hb dX6_bearing_0 rfl (lv_at hl 0 rfl) ?_
  refine va_get (D := D) (ci := 5) (v := .ref q1) (C := RX6) (T := TX6) (N := 8) hx hb hts inG_X6 hown hK hP 0 rfl rfl 2 (by decide) (hts _ kw_1_148) (fun _ h9 => h9) rfl dX6_bearing_1 ?_
  refine lv_iload_n hx hb dX6_bearing_4 rfl (lv_at hl 1 rfl) ?_
  refine m_iald hx hb hK hP 1 0 rfl rfl j rfl (by omega) (by decide) dX6_bearing_5 ?_
  refine lv_topi (fun v_1 ev_1 => ?_)
  refine lv_aload_n hx hb dX6_bearing_6 rfl (lv_at hl 0 rfl) ?_
  refine va_get (D := D) (ci := 5) (v := .ref q1) (C := RX6) (T := TX6) (N := 8) hx hb hts inG_X6 hown hK hP 0 rfl rfl 2 (by decide) (hts _ kw_1_148) (fun _ h9 => h9) rfl dX6_bearing_7 ?_
  refine lv_iload_n hx hb dX6_bearing_10 rfl (lv_at hl 1 rfl) ?_
  refine m_iald hx hb hK hP 1 0 rfl rfl j rfl (by omega) (by decide) dX6_bearing_11 ?_
  refine lv_topi (fun v_2 ev_2 => ?_)
  refine lv_imul hx hb dX6_bearing_12 ?_
  refine lv_topi (fun z_3 ez_3 => ?_)
  refine lv_iload_n hx hb dX6_bearing_13 rfl (lv_at hl 2 rfl) ?_
  refine lv_imul hx hb dX6_bearing_14 ?_
  refine lv_topi (fun z_4 ez_4 => ?_)
  refine lv_bipush (v := 100) hx hb dX6_bearing_15 (by decide) ?_
  refine lv_idiv hx hb dX6_bearing_17 (by decide) ?_
  refine lv_topi (fun z_5 ez_5 => ?_)
  have hP9 := hP.sub (ws' := [(h0, .inr (5, [.int (nI w), .int (nI h), .ref q1, .ref q2, .ref q3, .ref q4, .ref q5, .ref q6])), (q1, .inl (cy1, 100, .inl f1))]) [0, 1] rfl
  have hD9 := hD.sub (ws' := [(h0, .inr (5, [.int (nI w), .int (nI h), .ref q1, .ref q2, .ref q3, .ref q4, .ref q5, .ref q6])), (q1, .inl (cy1, 100, .inl f1))]) [0, 1] (by decide) rfl
  have hK9 := hK.sub (tys' := []) [] rfl
  refine W.widen (k := 0) (n := 0) (by decide) (by decide) ?_
  exact W.iret (v := z_5) hx hb hr (fun t ht hW => ⟨⟨z_5, (), rfl, by simp only [ev_1, ev_2, ez_3, ez_4, ez_5], by rw [ht]; exact hP9, va_K.moved hW.alike hK9, hD9⟩, hS.F ht⟩) hS.2.2 dX6_bearing_18
theorem dX6_makeThick_0 : decode cX6_makeThick 0 = .ok (.aload_n 0, 1) := by decide +kernel
theorem dX6_makeThick_1 : decode cX6_makeThick 1 = .ok (.iload_n 1, 1) := by decide +kernel
theorem dX6_makeThick_2 : decode cX6_makeThick 2 = .ok (.iload_n 2, 1) := by decide +kernel
theorem kw_3_14 : Cond.methodLink RX6 42 yX6_has ∈ gw := gw_t3 (List.mem_of_getElem? (i := 14) (by decide +kernel)) (by decide +kernel)
theorem kw_3_7 : Cond.instanceMethod yX6_has ∈ gw := gw_t3 (List.mem_of_getElem? (i := 7) (by decide +kernel)) (by decide +kernel)
theorem kw_3_8 : Cond.selects RX6 yX6_has yX6_has ∈ gw := gw_t3 (List.mem_of_getElem? (i := 8) (by decide +kernel)) (by decide +kernel)
theorem kw_3_9 : Cond.code yX6_has cX6_has 3 (some .boolean) ∈ gw := gw_t3 (List.mem_of_getElem? (i := 9) (by decide +kernel)) (by decide +kernel)
theorem gk_X6_42 : GoodIn gw (wsV RX6 42 RX6 yX6_has (.code yX6_has cX6_has 3 (some .boolean) :: gw)) ∧ (yX6_has.cls = RX6 ∧ yX6_has.cls ≠ "java/lang/invoke/MethodHandle" ∧ yX6_has.cls ≠ "java/lang/invoke/VarHandle" ∧ (parseMethodDescriptor yX6_has.desc).map (fun d => d.parameters.length) = some 2) := ⟨gi_V kw_3_14 kw_3_7 kw_3_8 kw_1_7 kw_3_9, by decide +kernel⟩
theorem dX6_makeThick_3 : decode cX6_makeThick 3 = .ok (.invokevirtual 42, 3) := by decide +kernel
theorem dX6_makeThick_6 : decode cX6_makeThick 6 = .ok (.ifCond .eq 28, 3) := by decide +kernel
theorem dX6_makeThick_9 : decode cX6_makeThick 9 = .ok (.aload_n 0, 1) := by decide +kernel
theorem dX6_makeThick_10 : decode cX6_makeThick 10 = .ok (.getfield 9, 3) := by decide +kernel
theorem dX6_makeThick_13 : decode cX6_makeThick 13 = .ok (.aload_n 0, 1) := by decide +kernel
theorem dX6_makeThick_14 : decode cX6_makeThick 14 = .ok (.iload_n 1, 1) := by decide +kernel
theorem dX6_makeThick_15 : decode cX6_makeThick 15 = .ok (.iload_n 2, 1) := by decide +kernel
theorem kw_3_15 : Cond.methodLink RX6 46 yX6_spotOf ∈ gw := gw_t3 (List.mem_of_getElem? (i := 15) (by decide +kernel)) (by decide +kernel)
theorem kw_3_16 : Cond.instanceMethod yX6_spotOf ∈ gw := gw_t3 (List.mem_of_getElem? (i := 16) (by decide +kernel)) (by decide +kernel)
theorem kw_3_17 : Cond.selects RX6 yX6_spotOf yX6_spotOf ∈ gw := gw_t3 (List.mem_of_getElem? (i := 17) (by decide +kernel)) (by decide +kernel)
theorem kw_3_18 : Cond.code yX6_spotOf cX6_spotOf 3 (some .int) ∈ gw := gw_t3 (List.mem_of_getElem? (i := 18) (by decide +kernel)) (by decide +kernel)
theorem gk_X6_46 : GoodIn gw (wsV RX6 46 RX6 yX6_spotOf (.code yX6_spotOf cX6_spotOf 3 (some .int) :: gw)) ∧ (yX6_spotOf.cls = RX6 ∧ yX6_spotOf.cls ≠ "java/lang/invoke/MethodHandle" ∧ yX6_spotOf.cls ≠ "java/lang/invoke/VarHandle" ∧ (parseMethodDescriptor yX6_spotOf.desc).map (fun d => d.parameters.length) = some 2) := ⟨gi_V kw_3_15 kw_3_16 kw_3_17 kw_1_7 kw_3_18, by decide +kernel⟩
theorem dX6_makeThick_16 : decode cX6_makeThick 16 = .ok (.invokevirtual 46, 3) := by decide +kernel
theorem dX6_makeThick_19 : decode cX6_makeThick 19 = .ok (.iload_n 3, 1) := by decide +kernel
theorem dX6_makeThick_20 : decode cX6_makeThick 20 = .ok (.iastore, 1) := by decide +kernel
theorem dX6_makeThick_21 : decode cX6_makeThick 21 = .ok (.aload_n 0, 1) := by decide +kernel
theorem dX6_makeThick_22 : decode cX6_makeThick 22 = .ok (.getfield 15, 3) := by decide +kernel
theorem dX6_makeThick_25 : decode cX6_makeThick 25 = .ok (.aload_n 0, 1) := by decide +kernel
theorem dX6_makeThick_26 : decode cX6_makeThick 26 = .ok (.iload_n 1, 1) := by decide +kernel
theorem dX6_makeThick_27 : decode cX6_makeThick 27 = .ok (.iload_n 2, 1) := by decide +kernel
theorem dX6_makeThick_28 : decode cX6_makeThick 28 = .ok (.invokevirtual 46, 3) := by decide +kernel
theorem dX6_makeThick_31 : decode cX6_makeThick 31 = .ok (.iload 4, 2) := by decide +kernel
theorem dX6_makeThick_33 : decode cX6_makeThick 33 = .ok (.iastore, 1) := by decide +kernel
theorem dX6_makeThick_34 : decode cX6_makeThick 34 = .ok (.return_, 1) := by decide +kernel
set_option maxHeartbeats 4000000 in
set_option maxRecDepth 100000 in
theorem c_makeThick (l : Launch) (D : va_G) (h0 : Nat) (q1 : Nat) (q2 : Nat) (q3 : Nat) (q4 : Nat) (q5 : Nat) (q6 : Nat) (cy1 : ClassId) (cy2 : ClassId) (f1 : Nat → Int32) (f2 : Nat → Int32) (w : Nat) (h : Nat) (i : Nat) (j : Nat) (lo : Int32) (hi : Int32) (hw : w < 2 ^ 31) (hh : h < 2 ^ 31) (h1 : i < w) (h2 : j < h) (h3 : w ≤ 10) (h4 : h ≤ 10) : cV l yX6_makeThick (.code yX6_makeThick cX6_makeThick 5 none) ({ frames := 1, cells := 0, slots := 0, locals := 22 }) D [(cy1, .int), (cy2, .int)] [(h0, .inr (5, [.int (nI w), .int (nI h), .ref q1, .ref q2, .ref q3, .ref q4, .ref q5, .ref q6])), (q1, .inl (cy1, 100, .inl f1)), (q2, .inl (cy2, 100, .inl f2))] xT [.ref h0, .int (nI i), .int (nI j), .int lo, .int hi] (S := (Nat → Int32) × (Nat → Int32)) (fun u => match u with | (g1, g2) => g1 = upd f1 (j * 10 + i) lo ∧ g2 = upd f2 (j * 10 + i) hi) (fun u => match u with | (g1, g2) => []) (fun u => match u with | (g1, g2) => [(h0, .inr (5, [.int (nI w), .int (nI h), .ref q1, .ref q2, .ref q3, .ref q4, .ref q5, .ref q6])), (q1, .inl (cy1, 100, .inl g1)), (q2, .inl (cy2, 100, .inl g2))]) := by
  intro sz
  refine Met.ofW (cc := cX6_makeThick) (maxL := 5) (ret := none) (by decide) rfl ?_
  intro p e s m args below meth c s₁ B hml hv
  obtain ⟨rfl, hsz, hP, hK, hD0, hX⟩ := hv
  have hx := B.exec
  have hb := B.bytes
  have hr := B.returns
  have hts0 := atoms_spec (ws := .code yX6_makeThick cX6_makeThick 5 none :: gw) B.pre
  have hts := fun (w : Cond) (h : w ∈ gw) => hts0 w (List.mem_cons_of_mem _ h)
  have hown : s.vm.findClass RX6 = some m.cls := findClass_of_methodNamed B.named
  have hlocks := B.notSynchronized
  have F : mFix p s m _ c cX6_makeThick 5 RX6 := ⟨hx, hb, hml, hown, hts⟩
  subst hsz
  have hD := hD0.self (sz := s.heap.size)
  generalize hAe : va_A [(h0, .inr (5, [.int (nI w), .int (nI h), .ref q1, .ref q2, .ref q3, .ref q4, .ref q5, .ref q6])), (q1, .inl (cy1, 100, .inl f1)), (q2, .inl (cy2, 100, .inl f2))] s.heap.size = A at hD hX ⊢
  have hA : ∀ q : Nat, s.heap.size ≤ q → A q := fun q h => by rw [← hAe]; exact Or.inr h
  have hS : va_S A s.heap s.heap [] := va_S.rf
  have hl := lv_entry ([.ref h0, .int (nI i), .int (nI j), .int lo, .int hi]) (n := 5) (Nat.le_of_ble_eq_true rfl)
  rw [lg_entry_eq]
  generalize (lg_sl ([.ref h0, .int (nI i), .int (nI j), .int lo, .int hi]) ++ List.replicate (5 - (lg_sl ([.ref h0, .int (nI i), .int (nI j), .int lo, .int hi])).length) Slot.unset).toArray = ls at hl ⊢
  have hl : lv_has ls 5 [(0, .ref h0), (1, .int (nI i)), (2, .int (nI j)), (3, .int lo), (4, .int hi)] := hl
  have hP : va_P D vwCl [(h0, .inr (5, [.int (nI w), .int (nI h), .ref q1, .ref q2, .ref q3, .ref q4, .ref q5, .ref q6])), (q1, .inl (cy1, 100, .inl f1)), (q2, .inl (cy2, 100, .inl f2))] s.heap := hP
  refine lv_aload_n hx hb dX6_makeThick_0 rfl (lv_at hl 0 rfl) ?_
  refine lv_iload_n hx hb dX6_makeThick_1 rfl (lv_at hl 1 rfl) ?_
  refine lv_iload_n hx hb dX6_makeThick_2 rfl (lv_at hl 2 rfl) ?_
  refine mc_Vi (rest := []) (wr := [(q1, .inl (cy1, 100, .inl f1)), (q2, .inl (cy2, 100, .inl f2))]) F hK hP hD hS hA (c_has_in l D h0 q1 q2 q3 q4 q5 q6 w h i j (by omega) (by omega) (by omega) (by omega)) ⟨gk_X6_42.1, gk_X6_42.2, Nat.le_of_ble_eq_true rfl, Nat.le_of_ble_eq_true rfl⟩ [0] [1, 2] [] ⟨rfl, rfl, rfl, rfl, by decide⟩ rfl xT_move (fun _ _ _ => trivial) 0 rfl rfl rfl hl.1 rfl (Nat.le_of_ble_eq_true rfl) dX6_makeThick_3 ⟨Nat.le_of_ble_eq_true rfl, Nat.le_of_ble_eq_true rfl⟩ (fun r_1 _ H locs hw hK1 hP hD hS => ?_)
  have hP : va_P D vwCl [(q1, .inl (cy1, 100, .inl f1)), (q2, .inl (cy2, 100, .inl f2)), (h0, .inr (5, [.int (nI w), .int (nI h), .ref q1, .ref q2, .ref q3, .ref q4, .ref q5, .ref q6]))] H := hP
  have hD : va_D A [(q1, .inl (cy1, 100, .inl f1)), (q2, .inl (cy2, 100, .inl f2)), (h0, .inr (5, [.int (nI w), .int (nI h), .ref q1, .ref q2, .ref q3, .ref q4, .ref q5, .ref q6]))] := hD
  have hw_2 : r_1 = 1 := hw
  obtain rfl : r_1 = 1 := hw_2
  refine lv_if_eq (tgt := 34) hx hb dX6_makeThick_6 (by decide) (fun c_3 => absurd c_3 (by decide)) (fun c_3 => ?_)
  refine lv_aload_n hx hb dX6_makeThick_9 rfl (lv_at hl 0 rfl) ?_
  refine va_get (D := D) (ci := 5) (v := .ref q1) (C := RX6) (T := TX6) (N := 8) hx hb hts inG_X6 hown hK hP 2 rfl rfl 2 (by decide) (hts _ kw_1_148) (fun _ h9 => h9) rfl dX6_makeThick_10 ?_
  refine lv_aload_n hx hb dX6_makeThick_13 rfl (lv_at hl 0 rfl) ?_
  refine lv_iload_n hx hb dX6_makeThick_14 rfl (lv_at hl 1 rfl) ?_
  refine lv_iload_n hx hb dX6_makeThick_15 rfl (lv_at hl 2 rfl) ?_
  refine mc_Vi (rest := [.ref q1]) (wr := [(q1, .inl (cy1, 100, .inl f1)), (q2, .inl (cy2, 100, .inl f2))]) F hK hP hD hS hA (c_spotOf l D h0 q1 q2 q3 q4 q5 q6 w h i j ) ⟨gk_X6_46.1, gk_X6_46.2, Nat.le_of_ble_eq_true rfl, Nat.le_of_ble_eq_true rfl⟩ [2] [0, 1] [] ⟨rfl, rfl, rfl, rfl, by decide⟩ rfl xT_move (fun _ _ _ => trivial) 2 rfl rfl rfl hl.1 rfl (Nat.le_of_ble_eq_true rfl) dX6_makeThick_16 ⟨Nat.le_of_ble_eq_true rfl, Nat.le_of_ble_eq_true rfl⟩ (fun r_4 _ H locs hw hK1 hP hD hS => ?_)
  have hP : va_P D vwCl [(q1, .inl (cy1, 100, .inl f1)), (q2, .inl (cy2, 100, .inl f2)), (h0, .inr (5, [.int (nI w), .int (nI h), .ref q1, .ref q2, .ref q3, .ref q4, .ref q5, .ref q6]))] H := hP
  have hD : va_D A [(q1, .inl (cy1, 100, .inl f1)), (q2, .inl (cy2, 100, .inl f2)), (h0, .inr (5, [.int (nI w), .int (nI h), .ref q1, .ref q2, .ref q3, .ref q4, .ref q5, .ref q6]))] := hD
  have hw_5 : r_4 = nI (j * 10 + i) := hw
  obtain rfl : r_4 = nI (j * 10 + i) := hw_5
  refine lv_iload_n hx hb dX6_makeThick_19 rfl (lv_at hl 3 rfl) ?_
  refine m_iast hx hb hK hP hD hS 0 0 rfl rfl (j * 10 + i) rfl (by omega) (by decide) dX6_makeThick_20 (fun g_6 H locs eg_6 hP hD hS => ?_)
  have hP : va_P D vwCl [(q1, .inl (cy1, 100, .inl g_6)), (q2, .inl (cy2, 100, .inl f2)), (h0, .inr (5, [.int (nI w), .int (nI h), .ref q1, .ref q2, .ref q3, .ref q4, .ref q5, .ref q6]))] H := hP
  have hD : va_D A [(q1, .inl (cy1, 100, .inl g_6)), (q2, .inl (cy2, 100, .inl f2)), (h0, .inr (5, [.int (nI w), .int (nI h), .ref q1, .ref q2, .ref q3, .ref q4, .ref q5, .ref q6]))] := hD
  refine lv_aload_n hx hb dX6_makeThick_21 rfl (lv_at hl 0 rfl) ?_
  refine va_get (D := D) (ci := 5) (v := .ref q2) (C := RX6) (T := TX6) (N := 8) hx hb hts inG_X6 hown hK hP 2 rfl rfl 3 (by decide) (hts _ kw_1_150) (fun _ h9 => h9) rfl dX6_makeThick_22 ?_
  refine lv_aload_n hx hb dX6_makeThick_25 rfl (lv_at hl 0 rfl) ?_
  refine lv_iload_n hx hb dX6_makeThick_26 rfl (lv_at hl 1 rfl) ?_
  refine lv_iload_n hx hb dX6_makeThick_27 rfl (lv_at hl 2 rfl) ?_
  refine mc_Vi (rest := [.ref q2]) (wr := [(q1, .inl (cy1, 100, .inl g_6)), (q2, .inl (cy2, 100, .inl f2))]) F hK hP hD hS hA (c_spotOf l D h0 q1 q2 q3 q4 q5 q6 w h i j ) ⟨gk_X6_46.1, gk_X6_46.2, Nat.le_of_ble_eq_true rfl, Nat.le_of_ble_eq_true rfl⟩ [2] [0, 1] [] ⟨rfl, rfl, rfl, rfl, by decide⟩ rfl xT_move (fun _ _ _ => trivial) 2 rfl rfl rfl hl.1 rfl (Nat.le_of_ble_eq_true rfl) dX6_makeThick_28 ⟨Nat.le_of_ble_eq_true rfl, Nat.le_of_ble_eq_true rfl⟩ (fun r_7 _ H locs hw hK1 hP hD hS => ?_)
  have hP : va_P D vwCl [(q1, .inl (cy1, 100, .inl g_6)), (q2, .inl (cy2, 100, .inl f2)), (h0, .inr (5, [.int (nI w), .int (nI h), .ref q1, .ref q2, .ref q3, .ref q4, .ref q5, .ref q6]))] H := hP
  have hD : va_D A [(q1, .inl (cy1, 100, .inl g_6)), (q2, .inl (cy2, 100, .inl f2)), (h0, .inr (5, [.int (nI w), .int (nI h), .ref q1, .ref q2, .ref q3, .ref q4, .ref q5, .ref q6]))] := hD
  have hw_8 : r_7 = nI (j * 10 + i) := hw
  obtain rfl : r_7 = nI (j * 10 + i) := hw_8
  refine lv_iload hx hb dX6_makeThick_31 (lv_at hl 4 rfl) ?_
  refine m_iast hx hb hK hP hD hS 1 1 rfl rfl (j * 10 + i) rfl (by omega) (by decide) dX6_makeThick_33 (fun g_9 H locs eg_9 hP hD hS => ?_)
  have hP : va_P D vwCl [(q1, .inl (cy1, 100, .inl g_6)), (q2, .inl (cy2, 100, .inl g_9)), (h0, .inr (5, [.int (nI w), .int (nI h), .ref q1, .ref q2, .ref q3, .ref q4, .ref q5, .ref q6]))] H := hP
  have hD : va_D A [(q1, .inl (cy1, 100, .inl g_6)), (q2, .inl (cy2, 100, .inl g_9)), (h0, .inr (5, [.int (nI w), .int (nI h), .ref q1, .ref q2, .ref q3, .ref q4, .ref q5, .ref q6]))] := hD
  have hP9 := hP.sub (ws' := [(h0, .inr (5, [.int (nI w), .int (nI h), .ref q1, .ref q2, .ref q3, .ref q4, .ref q5, .ref q6])), (q1, .inl (cy1, 100, .inl g_6)), (q2, .inl (cy2, 100, .inl g_9))]) [2, 0, 1] rfl
  have hD9 := hD.sub (ws' := [(h0, .inr (5, [.int (nI w), .int (nI h), .ref q1, .ref q2, .ref q3, .ref q4, .ref q5, .ref q6])), (q1, .inl (cy1, 100, .inl g_6)), (q2, .inl (cy2, 100, .inl g_9))]) [2, 0, 1] (by decide) rfl
  have hK9 := hK.sub (tys' := []) [] rfl
  refine W.widen (k := 0) (n := 0) (by decide) (by decide) ?_
  exact W.vret hx hb hr (fun t ht hW => ⟨⟨(g_6, g_9), rfl, ⟨eg_6, eg_9⟩, by rw [ht]; exact hP9, va_K.moved hW.alike hK9, hD9⟩, hS.F ht⟩) hS.2.2 dX6_makeThick_34
theorem dX6_withinBounds_0 : decode cX6_withinBounds 0 = .ok (.iconst 0, 1) := by decide +kernel
theorem dX6_withinBounds_1 : decode cX6_withinBounds 1 = .ok (.bipush 99, 2) := by decide +kernel
theorem dX6_withinBounds_3 : decode cX6_withinBounds 3 = .ok (.iload_n 0, 1) := by decide +kernel
theorem kw_3_166 : Cond.methodLink RX6 61 Lib.Math.min.name ∈ gw := gw_t3 (List.mem_of_getElem? (i := 166) (by decide +kernel)) (by decide +kernel)
theorem kw_2_129 : Cond.static Lib.Math.min.name ∈ gw := gw_t2 (List.mem_of_getElem? (i := 129) (by decide +kernel)) (by decide +kernel)
theorem kw_1_12 : Cond.initialized RJ9 ∈ gw := gw_t1 (List.mem_of_getElem? (i := 12) (by decide +kernel)) (by decide +kernel)
theorem kw_2_130 : Cond.code Lib.Math.min.name Lib.Math.min.code 2 (some .int) ∈ gw := gw_t2 (List.mem_of_getElem? (i := 130) (by decide +kernel)) (by decide +kernel)
theorem dX6_withinBounds_4 : decode cX6_withinBounds 4 = .ok (.invokestatic 61, 3) := by decide +kernel
theorem kw_3_167 : Cond.methodLink RX6 66 Lib.Math.max.name ∈ gw := gw_t3 (List.mem_of_getElem? (i := 167) (by decide +kernel)) (by decide +kernel)
theorem kw_3_83 : Cond.static Lib.Math.max.name ∈ gw := gw_t3 (List.mem_of_getElem? (i := 83) (by decide +kernel)) (by decide +kernel)
theorem kw_3_84 : Cond.code Lib.Math.max.name Lib.Math.max.code 2 (some .int) ∈ gw := gw_t3 (List.mem_of_getElem? (i := 84) (by decide +kernel)) (by decide +kernel)
theorem dX6_withinBounds_7 : decode cX6_withinBounds 7 = .ok (.invokestatic 66, 3) := by decide +kernel
theorem dX6_withinBounds_10 : decode cX6_withinBounds 10 = .ok (.ireturn, 1) := by decide +kernel
set_option maxHeartbeats 4000000 in
set_option maxRecDepth 100000 in
theorem c_within (l : Launch) (D : va_G) (t1 : Int32) : cI l yX6_withinBounds (.code yX6_withinBounds cX6_withinBounds 1 (some .int)) ({ frames := 1, cells := 0, slots := 0, locals := 60 }) D [] [] xT [.int t1] (S := Unit) (fun r _ => r = (if 0 < (if t1 < 99 then t1 else 99) then (if t1 < 99 then t1 else 99) else 0)) (fun _ => []) (fun _ => []) := by
  intro sz
  refine Met.ofW (cc := cX6_withinBounds) (maxL := 1) (ret := (some .int)) (by decide) rfl ?_
  intro p e s m args below meth c s₁ B hml hv
  obtain ⟨rfl, hsz, hP, hK, hD0, hX⟩ := hv
  have hx := B.exec
  have hb := B.bytes
  have hr := B.returns
  have hts0 := atoms_spec (ws := .code yX6_withinBounds cX6_withinBounds 1 (some .int) :: gw) B.pre
  have hts := fun (w : Cond) (h : w ∈ gw) => hts0 w (List.mem_cons_of_mem _ h)
  have hown : s.vm.findClass RX6 = some m.cls := findClass_of_methodNamed B.named
  have hlocks := B.notSynchronized
  have F : mFix p s m _ c cX6_withinBounds 1 RX6 := ⟨hx, hb, hml, hown, hts⟩
  subst hsz
  have hD := hD0.self (sz := s.heap.size)
  generalize hAe : va_A [] s.heap.size = A at hD hX ⊢
  have hA : ∀ q : Nat, s.heap.size ≤ q → A q := fun q h => by rw [← hAe]; exact Or.inr h
  have hS : va_S A s.heap s.heap [] := va_S.rf
  have hl := lv_entry ([.int t1]) (n := 1) (Nat.le_of_ble_eq_true rfl)
  rw [lg_entry_eq]
  generalize (lg_sl ([.int t1]) ++ List.replicate (1 - (lg_sl ([.int t1])).length) Slot.unset).toArray = ls at hl ⊢
  have hl : lv_has ls 1 [(0, .int t1)] := hl
  have hP : va_P D vwCl [] s.heap := hP
  refine lv_iconst (v := 0) hx hb dX6_withinBounds_0 (by decide) ?_
  refine lv_bipush (v := 99) hx hb dX6_withinBounds_1 (by decide) ?_
  refine lv_iload_n hx hb dX6_withinBounds_3 rfl (lv_at hl 0 rfl) ?_
  refine va_mmin hx hb (by rw [hml]; exact hl.1.symm) hown (hts _ kw_3_166) (hts _ kw_2_129) (hts _ kw_1_12) (hts _ kw_2_130) (Nat.le_of_ble_eq_true rfl) (Nat.le_of_ble_eq_true rfl) (Nat.le_of_ble_eq_true rfl) (Nat.le_of_ble_eq_true rfl) dX6_withinBounds_4 ?_
  refine lv_topi (fun z_1 ez_1 => ?_)
  refine va_mmax hx hb (by rw [hml]; exact hl.1.symm) hown (hts _ kw_3_167) (hts _ kw_3_83) (hts _ kw_1_12) (hts _ kw_3_84) (Nat.le_of_ble_eq_true rfl) (Nat.le_of_ble_eq_true rfl) (Nat.le_of_ble_eq_true rfl) (Nat.le_of_ble_eq_true rfl) dX6_withinBounds_7 ?_
  refine lv_topi (fun z_2 ez_2 => ?_)
  have hP9 := hP.sub (ws' := []) [] rfl
  have hD9 := hD.sub (ws' := []) [] (by decide) rfl
  have hK9 := hK.sub (tys' := []) [] rfl
  refine W.widen (k := 0) (n := 0) (by decide) (by decide) ?_
  exact W.iret (v := z_2) hx hb hr (fun t ht hW => ⟨⟨z_2, (), rfl, by simp only [ez_1, ez_2], by rw [ht]; exact hP9, va_K.moved hW.alike hK9, hD9⟩, hS.F ht⟩) hS.2.2 dX6_withinBounds_10
theorem dX6_isFirm_0 : decode cX6_isFirm 0 = .ok (.aload_n 0, 1) := by decide +kernel
theorem dX6_isFirm_1 : decode cX6_isFirm 1 = .ok (.iload_n 1, 1) := by decide +kernel
theorem dX6_isFirm_2 : decode cX6_isFirm 2 = .ok (.iload_n 2, 1) := by decide +kernel
theorem dX6_isFirm_3 : decode cX6_isFirm 3 = .ok (.invokevirtual 42, 3) := by decide +kernel
theorem dX6_isFirm_6 : decode cX6_isFirm 6 = .ok (.ifCond .ne 5, 3) := by decide +kernel
theorem dX6_isFirm_9 : decode cX6_isFirm 9 = .ok (.iconst 0, 1) := by decide +kernel
theorem dX6_isFirm_10 : decode cX6_isFirm 10 = .ok (.ireturn, 1) := by decide +kernel
theorem dX6_isFirm_11 : decode cX6_isFirm 11 = .ok (.aload_n 0, 1) := by decide +kernel
theorem dX6_isFirm_12 : decode cX6_isFirm 12 = .ok (.iload_n 1, 1) := by decide +kernel
theorem dX6_isFirm_13 : decode cX6_isFirm 13 = .ok (.iload_n 2, 1) := by decide +kernel
theorem dX6_isFirm_14 : decode cX6_isFirm 14 = .ok (.invokevirtual 46, 3) := by decide +kernel
theorem dX6_isFirm_17 : decode cX6_isFirm 17 = .ok (.istore_n 3, 1) := by decide +kernel
theorem dX6_isFirm_18 : decode cX6_isFirm 18 = .ok (.aload_n 0, 1) := by decide +kernel
theorem dX6_isFirm_19 : decode cX6_isFirm 19 = .ok (.getfield 9, 3) := by decide +kernel
theorem dX6_isFirm_22 : decode cX6_isFirm 22 = .ok (.iload_n 3, 1) := by decide +kernel
theorem dX6_isFirm_23 : decode cX6_isFirm 23 = .ok (.iaload, 1) := by decide +kernel
theorem dX6_isFirm_24 : decode cX6_isFirm 24 = .ok (.ifCond .le 16, 3) := by decide +kernel
theorem dX6_isFirm_40 : decode cX6_isFirm 40 = .ok (.iconst 0, 1) := by decide +kernel
theorem dX6_isFirm_41 : decode cX6_isFirm 41 = .ok (.ireturn, 1) := by decide +kernel
theorem dX6_isFirm_27 : decode cX6_isFirm 27 = .ok (.aload_n 0, 1) := by decide +kernel
theorem dX6_isFirm_28 : decode cX6_isFirm 28 = .ok (.getfield 24, 3) := by decide +kernel
theorem dX6_isFirm_31 : decode cX6_isFirm 31 = .ok (.iload_n 3, 1) := by decide +kernel
theorem dX6_isFirm_32 : decode cX6_isFirm 32 = .ok (.baload, 1) := by decide +kernel
theorem dX6_isFirm_33 : decode cX6_isFirm 33 = .ok (.ifCond .ne 7, 3) := by decide +kernel
theorem dX6_isFirm_36 : decode cX6_isFirm 36 = .ok (.iconst 1, 1) := by decide +kernel
theorem dX6_isFirm_37 : decode cX6_isFirm 37 = .ok (.goto 4, 3) := by decide +kernel
set_option maxHeartbeats 4000000 in
set_option maxRecDepth 100000 in
theorem c_isFirm (l : Launch) (D : va_G) (h0 : Nat) (q1 : Nat) (q2 : Nat) (q3 : Nat) (q4 : Nat) (q5 : Nat) (q6 : Nat) (cy1 : ClassId) (cy5 : ClassId) (f1 : Nat → Int32) (f5 : Nat → Int32) (w : Nat) (h : Nat) (x : Int32) (y : Int32) (h3 : w ≤ 10) (h4 : h ≤ 10) : cI l yX6_isFirm (.code yX6_isFirm cX6_isFirm 4 (some .boolean)) ({ frames := 1, cells := 0, slots := 0, locals := 22 }) D [(cy1, .int), (cy5, .boolean)] [(h0, .inr (5, [.int (nI w), .int (nI h), .ref q1, .ref q2, .ref q3, .ref q4, .ref q5, .ref q6])), (q1, .inl (cy1, 100, .inl f1)), (q5, .inl (cy5, 100, .inl f5))] xT [.ref h0, .int x, .int y] (S := Unit) (fun r _ => r = 0 ∨ r = 1) (fun _ => []) (fun _ => [(h0, .inr (5, [.int (nI w), .int (nI h), .ref q1, .ref q2, .ref q3, .ref q4, .ref q5, .ref q6])), (q1, .inl (cy1, 100, .inl f1)), (q5, .inl (cy5, 100, .inl f5))]) := by
  intro sz
  refine Met.ofW (cc := cX6_isFirm) (maxL := 4) (ret := (some .boolean)) (by decide) rfl ?_
  intro p e s m args below meth c s₁ B hml hv
  obtain ⟨rfl, hsz, hP, hK, hD0, hX⟩ := hv
  have hx := B.exec
  have hb := B.bytes
  have hr := B.returns
  have hts0 := atoms_spec (ws := .code yX6_isFirm cX6_isFirm 4 (some .boolean) :: gw) B.pre
  have hts := fun (w : Cond) (h : w ∈ gw) => hts0 w (List.mem_cons_of_mem _ h)
  have hown : s.vm.findClass RX6 = some m.cls := findClass_of_methodNamed B.named
  have hlocks := B.notSynchronized
  have F : mFix p s m _ c cX6_isFirm 4 RX6 := ⟨hx, hb, hml, hown, hts⟩
  subst hsz
  have hD := hD0.self (sz := s.heap.size)
  generalize hAe : va_A [(h0, .inr (5, [.int (nI w), .int (nI h), .ref q1, .ref q2, .ref q3, .ref q4, .ref q5, .ref q6])), (q1, .inl (cy1, 100, .inl f1)), (q5, .inl (cy5, 100, .inl f5))] s.heap.size = A at hD hX ⊢
  have hA : ∀ q : Nat, s.heap.size ≤ q → A q := fun q h => by rw [← hAe]; exact Or.inr h
  have hS : va_S A s.heap s.heap [] := va_S.rf
  have hl := lv_entry ([.ref h0, .int x, .int y]) (n := 4) (Nat.le_of_ble_eq_true rfl)
  rw [lg_entry_eq]
  generalize (lg_sl ([.ref h0, .int x, .int y]) ++ List.replicate (4 - (lg_sl ([.ref h0, .int x, .int y])).length) Slot.unset).toArray = ls at hl ⊢
  have hl : lv_has ls 4 [(0, .ref h0), (1, .int x), (2, .int y)] := hl
  have hP : va_P D vwCl [(h0, .inr (5, [.int (nI w), .int (nI h), .ref q1, .ref q2, .ref q3, .ref q4, .ref q5, .ref q6])), (q1, .inl (cy1, 100, .inl f1)), (q5, .inl (cy5, 100, .inl f5))] s.heap := hP
  refine lv_aload_n hx hb dX6_isFirm_0 rfl (lv_at hl 0 rfl) ?_
  refine lv_iload_n hx hb dX6_isFirm_1 rfl (lv_at hl 1 rfl) ?_
  refine lv_iload_n hx hb dX6_isFirm_2 rfl (lv_at hl 2 rfl) ?_
  refine mc_Vi (rest := []) (wr := [(q1, .inl (cy1, 100, .inl f1)), (q5, .inl (cy5, 100, .inl f5))]) F hK hP hD hS hA (c_has_any l D h0 q1 q2 q3 q4 q5 q6 w h x y (by omega) (by omega)) ⟨gk_X6_42.1, gk_X6_42.2, Nat.le_of_ble_eq_true rfl, Nat.le_of_ble_eq_true rfl⟩ [0] [1, 2] [] ⟨rfl, rfl, rfl, rfl, by decide⟩ rfl xT_move (fun _ _ _ => trivial) 0 rfl rfl rfl hl.1 rfl (Nat.le_of_ble_eq_true rfl) dX6_isFirm_3 ⟨Nat.le_of_ble_eq_true rfl, Nat.le_of_ble_eq_true rfl⟩ (fun r_1 _ H locs hw hK1 hP hD hS => ?_)
  have hP : va_P D vwCl [(q1, .inl (cy1, 100, .inl f1)), (q5, .inl (cy5, 100, .inl f5)), (h0, .inr (5, [.int (nI w), .int (nI h), .ref q1, .ref q2, .ref q3, .ref q4, .ref q5, .ref q6]))] H := hP
  have hD : va_D A [(q1, .inl (cy1, 100, .inl f1)), (q5, .inl (cy5, 100, .inl f5)), (h0, .inr (5, [.int (nI w), .int (nI h), .ref q1, .ref q2, .ref q3, .ref q4, .ref q5, .ref q6]))] := hD
  have hw_2 : r_1 = (if (x < 0 ∨ ¬ x < nI w ∨ y < 0 ∨ ¬ y < nI h) then 0 else 1) := hw
  by_cases ho_3 : (x < 0 ∨ ¬ x < nI w ∨ y < 0 ∨ ¬ y < nI h)
  · skip
    obtain rfl : r_1 = 0 := by rw [hw_2, if_pos ho_3]
    refine lv_if_ne (tgt := 11) hx hb dX6_isFirm_6 (by decide) (fun c_4 => absurd c_4 (by decide)) (fun c_4 => ?_)
    refine lv_iconst (v := 0) hx hb dX6_isFirm_9 (by decide) ?_
    have hP9 := hP.sub (ws' := [(h0, .inr (5, [.int (nI w), .int (nI h), .ref q1, .ref q2, .ref q3, .ref q4, .ref q5, .ref q6])), (q1, .inl (cy1, 100, .inl f1)), (q5, .inl (cy5, 100, .inl f5))]) [2, 0, 1] rfl
    have hD9 := hD.sub (ws' := [(h0, .inr (5, [.int (nI w), .int (nI h), .ref q1, .ref q2, .ref q3, .ref q4, .ref q5, .ref q6])), (q1, .inl (cy1, 100, .inl f1)), (q5, .inl (cy5, 100, .inl f5))]) [2, 0, 1] (by decide) rfl
    have hK9 := hK.sub (tys' := []) [] rfl
    refine W.widen (k := 0) (n := 0) (by decide) (by decide) ?_
    exact W.zret (v := 0) hx hb hr rfl (fun t ht hW => ⟨⟨0, (), rfl, Or.inl rfl, by rw [ht]; exact hP9, va_K.moved hW.alike hK9, hD9⟩, hS.F ht⟩) hS.2.2 dX6_isFirm_10
  · skip
    obtain rfl : r_1 = 1 := by rw [hw_2, if_neg ho_3]
    obtain ⟨i_5, hi_5, ei_5⟩ : ∃ j : Nat, j < w ∧ x = nI j := n_lt (fun q => ho_3 (Or.inl q)) (fun q => ho_3 (Or.inr (Or.inl (Int32.not_lt.mpr q)))) (by omega)
    obtain ⟨j_6, hj_6, ej_6⟩ : ∃ j : Nat, j < h ∧ y = nI j := n_lt (fun q => ho_3 (Or.inr (Or.inr (Or.inl q)))) (fun q => ho_3 (Or.inr (Or.inr (Or.inr (Int32.not_lt.mpr q))))) (by omega)
    subst ei_5
    subst ej_6
    have hl : lv_has ls 4 [(0, .ref h0), (1, .int (nI i_5)), (2, .int (nI j_6))] := hl
    refine lv_if_ne (tgt := 11) hx hb dX6_isFirm_6 (by decide) (fun c_7 => ?_) (fun c_7 => absurd c_7 (by decide))
    refine lv_aload_n hx hb dX6_isFirm_11 rfl (lv_at hl 0 rfl) ?_
    refine lv_iload_n hx hb dX6_isFirm_12 rfl (lv_at hl 1 rfl) ?_
    refine lv_iload_n hx hb dX6_isFirm_13 rfl (lv_at hl 2 rfl) ?_
    refine mc_Vi (rest := []) (wr := [(q1, .inl (cy1, 100, .inl f1)), (q5, .inl (cy5, 100, .inl f5))]) F hK hP hD hS hA (c_spotOf l D h0 q1 q2 q3 q4 q5 q6 w h i_5 j_6 ) ⟨gk_X6_46.1, gk_X6_46.2, Nat.le_of_ble_eq_true rfl, Nat.le_of_ble_eq_true rfl⟩ [2] [0, 1] [] ⟨rfl, rfl, rfl, rfl, by decide⟩ rfl xT_move (fun _ _ _ => trivial) 2 rfl rfl rfl hl.1 rfl (Nat.le_of_ble_eq_true rfl) dX6_isFirm_14 ⟨Nat.le_of_ble_eq_true rfl, Nat.le_of_ble_eq_true rfl⟩ (fun r_8 _ H locs hw hK1 hP hD hS => ?_)
    have hP : va_P D vwCl [(q1, .inl (cy1, 100, .inl f1)), (q5, .inl (cy5, 100, .inl f5)), (h0, .inr (5, [.int (nI w), .int (nI h), .ref q1, .ref q2, .ref q3, .ref q4, .ref q5, .ref q6]))] H := hP
    have hD : va_D A [(q1, .inl (cy1, 100, .inl f1)), (q5, .inl (cy5, 100, .inl f5)), (h0, .inr (5, [.int (nI w), .int (nI h), .ref q1, .ref q2, .ref q3, .ref q4, .ref q5, .ref q6]))] := hD
    have hw_9 : r_8 = nI (j_6 * 10 + i_5) := hw
    obtain rfl : r_8 = nI (j_6 * 10 + i_5) := hw_9
    refine lv_istore_n (lv' := [(3, .int (nI (j_6 * 10 + i_5))), (0, .ref h0), (1, .int (nI i_5)), (2, .int (nI j_6))]) hx hb dX6_isFirm_17 rfl hl (by decide) rfl (fun ls hl => ?_)
    refine lv_aload_n hx hb dX6_isFirm_18 rfl (lv_at hl 1 rfl) ?_
    refine va_get (D := D) (ci := 5) (v := .ref q1) (C := RX6) (T := TX6) (N := 8) hx hb hts inG_X6 hown hK hP 2 rfl rfl 2 (by decide) (hts _ kw_1_148) (fun _ h9 => h9) rfl dX6_isFirm_19 ?_
    refine lv_iload_n hx hb dX6_isFirm_22 rfl (lv_at hl 0 rfl) ?_
    refine m_iald hx hb hK hP 0 0 rfl rfl (j_6 * 10 + i_5) rfl (by omega) (by decide) dX6_isFirm_23 ?_
    refine lv_topi (fun v_10 ev_10 => ?_)
    refine lv_if_le (tgt := 40) hx hb dX6_isFirm_24 (by decide) (fun c_11 => ?_) (fun c_11 => ?_)
    · skip
      have c_11 := Int32.not_lt.mpr c_11
      refine lv_iconst (v := 0) hx hb dX6_isFirm_40 (by decide) ?_
      have hP9 := hP.sub (ws' := [(h0, .inr (5, [.int (nI w), .int (nI h), .ref q1, .ref q2, .ref q3, .ref q4, .ref q5, .ref q6])), (q1, .inl (cy1, 100, .inl f1)), (q5, .inl (cy5, 100, .inl f5))]) [2, 0, 1] rfl
      have hD9 := hD.sub (ws' := [(h0, .inr (5, [.int (nI w), .int (nI h), .ref q1, .ref q2, .ref q3, .ref q4, .ref q5, .ref q6])), (q1, .inl (cy1, 100, .inl f1)), (q5, .inl (cy5, 100, .inl f5))]) [2, 0, 1] (by decide) rfl
      have hK9 := hK.sub (tys' := []) [] rfl
      refine W.widen (k := 0) (n := 0) (by decide) (by decide) ?_
      exact W.zret (v := 0) hx hb hr rfl (fun t ht hW => ⟨⟨0, (), rfl, Or.inl rfl, by rw [ht]; exact hP9, va_K.moved hW.alike hK9, hD9⟩, hS.F ht⟩) hS.2.2 dX6_isFirm_41
    · skip
      have c_11 := Int32.not_le.mp c_11
      refine lv_aload_n hx hb dX6_isFirm_27 rfl (lv_at hl 1 rfl) ?_
      refine va_get (D := D) (ci := 5) (v := .ref q5) (C := RX6) (T := TX6) (N := 8) hx hb hts inG_X6 hown hK hP 2 rfl rfl 6 (by decide) (hts _ kw_1_157) (fun _ h9 => h9) rfl dX6_isFirm_28 ?_
      refine lv_iload_n hx hb dX6_isFirm_31 rfl (lv_at hl 0 rfl) ?_
      refine m_zald hx hb hK hP 1 1 rfl rfl (j_6 * 10 + i_5) rfl (by omega) (by decide) dX6_isFirm_32 ?_
      refine lv_topi (fun v_12 ev_12 => ?_)
      refine lv_if_ne (tgt := 40) hx hb dX6_isFirm_33 (by decide) (fun c_13 => ?_) (fun c_13 => ?_)
      · skip
        refine lv_iconst (v := 0) hx hb dX6_isFirm_40 (by decide) ?_
        have hP9 := hP.sub (ws' := [(h0, .inr (5, [.int (nI w), .int (nI h), .ref q1, .ref q2, .ref q3, .ref q4, .ref q5, .ref q6])), (q1, .inl (cy1, 100, .inl f1)), (q5, .inl (cy5, 100, .inl f5))]) [2, 0, 1] rfl
        have hD9 := hD.sub (ws' := [(h0, .inr (5, [.int (nI w), .int (nI h), .ref q1, .ref q2, .ref q3, .ref q4, .ref q5, .ref q6])), (q1, .inl (cy1, 100, .inl f1)), (q5, .inl (cy5, 100, .inl f5))]) [2, 0, 1] (by decide) rfl
        have hK9 := hK.sub (tys' := []) [] rfl
        refine W.widen (k := 0) (n := 0) (by decide) (by decide) ?_
        exact W.zret (v := 0) hx hb hr rfl (fun t ht hW => ⟨⟨0, (), rfl, Or.inl rfl, by rw [ht]; exact hP9, va_K.moved hW.alike hK9, hD9⟩, hS.F ht⟩) hS.2.2 dX6_isFirm_41
      · skip
        refine lv_iconst (v := 1) hx hb dX6_isFirm_36 (by decide) ?_
        refine lv_goto (tgt := 41) hx hb dX6_isFirm_37 (by decide) ?_
        have hP9 := hP.sub (ws' := [(h0, .inr (5, [.int (nI w), .int (nI h), .ref q1, .ref q2, .ref q3, .ref q4, .ref q5, .ref q6])), (q1, .inl (cy1, 100, .inl f1)), (q5, .inl (cy5, 100, .inl f5))]) [2, 0, 1] rfl
        have hD9 := hD.sub (ws' := [(h0, .inr (5, [.int (nI w), .int (nI h), .ref q1, .ref q2, .ref q3, .ref q4, .ref q5, .ref q6])), (q1, .inl (cy1, 100, .inl f1)), (q5, .inl (cy5, 100, .inl f5))]) [2, 0, 1] (by decide) rfl
        have hK9 := hK.sub (tys' := []) [] rfl
        refine W.widen (k := 0) (n := 0) (by decide) (by decide) ?_
        exact W.zret (v := 1) hx hb hr rfl (fun t ht hW => ⟨⟨1, (), rfl, Or.inr rfl, by rw [ht]; exact hP9, va_K.moved hW.alike hK9, hD9⟩, hS.F ht⟩) hS.2.2 dX6_isFirm_41
