set_option maxHeartbeats 4000000 in
set_option maxRecDepth 100000 in
theorem n_isCell (l : Launch) (D : va_G) (h0 : Nat) (m_tape : Nat) (ln : Nat) (s_thrown : Int32) (m_rule : Nat) (m_rules : Nat) (sn : Nat) (m_stair : Nat) (s_readStairs : Int32) (s_fault : Int32) (s_faultPlace : Int32) (w : Nat) (h : Nat) (m_low : Nat) (m_high : Nat) (m_crack : Nat) (bc : Nat) (m_weight : Nat) (m_fire : Nat) (m_crowd : Nat) (m_state : Nat) (m_where : Nat) (s_hours : Int32) (s_fees : Int32) (s_looks : Int32) (m_words : Nat) (s_end : Int32) (s_next : Int32) (s_kind : Int32) (s_which : Int32) (s_place : Int32) (s_read : Int32) (m_told : Nat) (m_breaks : Nat) (m_row : Nat) (m_tried : Nat) (m_steps : Nat) (m_paths : Nat) (x : Int32) (y : Int32) (hw : w < 2 ^ 31) (hh : h < 2 ^ 31) : cI l yX10_isCell (.code yX10_isCell cX10_isCell 3 (some .boolean)) ({ frames := 0, cells := 0, slots := 0, locals := 0 }) D [] [(h0, Sum.inr (9, [Value.ref m_tape, Value.int (nI ln), Value.int s_thrown, Value.ref m_rule, Value.ref m_rules, Value.int (nI sn), Value.ref m_stair, Value.int s_readStairs, Value.int s_fault, Value.int s_faultPlace, Value.int (nI w), Value.int (nI h), Value.ref m_low, Value.ref m_high, Value.ref m_crack, Value.int (nI bc), Value.ref m_weight, Value.ref m_fire, Value.ref m_crowd, Value.ref m_state, Value.ref m_where, Value.int s_hours, Value.int s_fees, Value.int s_looks, Value.ref m_words, Value.int s_end, Value.int s_next, Value.int s_kind, Value.int s_which, Value.int s_place, Value.int s_read, Value.ref m_told, Value.ref m_breaks, Value.ref m_row, Value.ref m_tried, Value.ref m_steps, Value.ref m_paths]))] xT [Value.ref h0, Value.int x, Value.int y] (S := Unit) (fun r _ => r = (if (x < 0 ∨ ¬ x < nI w ∨ y < 0 ∨ ¬ y < nI h) then 0 else 1)) (fun _ => []) (fun _ => [(h0, Sum.inr (9, [Value.ref m_tape, Value.int (nI ln), Value.int s_thrown, Value.ref m_rule, Value.ref m_rules, Value.int (nI sn), Value.ref m_stair, Value.int s_readStairs, Value.int s_fault, Value.int s_faultPlace, Value.int (nI w), Value.int (nI h), Value.ref m_low, Value.ref m_high, Value.ref m_crack, Value.int (nI bc), Value.ref m_weight, Value.ref m_fire, Value.ref m_crowd, Value.ref m_state, Value.ref m_where, Value.int s_hours, Value.int s_fees, Value.int s_looks, Value.ref m_words, Value.int s_end, Value.int s_next, Value.int s_kind, Value.int s_which, Value.int s_place, Value.int s_read, Value.ref m_told, Value.ref m_breaks, Value.ref m_row, Value.ref m_tried, Value.ref m_steps, Value.ref m_paths]))]) := by
  intro sz
  refine Met.ofW (cc := cX10_isCell) (maxL := 3) (ret := (some .boolean)) (by decide) rfl ?_
  intro p e s m args below meth c s₁ B hml hv
  obtain ⟨rfl, hsz, hP, hK, hD0, hX⟩ := hv
  have hx := B.exec
  have hb := B.bytes
  have hr := B.returns
  have hts0 := atoms_spec (ws := .code yX10_isCell cX10_isCell 3 (some .boolean) :: gw) B.pre
  have hts := fun (w : Cond) (h : w ∈ gw) => hts0 w (List.mem_cons_of_mem _ h)
  have hown : s.vm.findClass RX10 = some m.cls := findClass_of_methodNamed B.named
  have hlocks := B.notSynchronized
  have F : mFix p s m _ c cX10_isCell 3 RX10 := ⟨hx, hb, hml, hown, hts⟩
  subst hsz
  have hD := hD0.self (sz := s.heap.size)
  generalize hAe : va_A [(h0, Sum.inr (9, [Value.ref m_tape, Value.int (nI ln), Value.int s_thrown, Value.ref m_rule, Value.ref m_rules, Value.int (nI sn), Value.ref m_stair, Value.int s_readStairs, Value.int s_fault, Value.int s_faultPlace, Value.int (nI w), Value.int (nI h), Value.ref m_low, Value.ref m_high, Value.ref m_crack, Value.int (nI bc), Value.ref m_weight, Value.ref m_fire, Value.ref m_crowd, Value.ref m_state, Value.ref m_where, Value.int s_hours, Value.int s_fees, Value.int s_looks, Value.ref m_words, Value.int s_end, Value.int s_next, Value.int s_kind, Value.int s_which, Value.int s_place, Value.int s_read, Value.ref m_told, Value.ref m_breaks, Value.ref m_row, Value.ref m_tried, Value.ref m_steps, Value.ref m_paths]))] s.heap.size = A at hD hX ⊢
  have hA : ∀ q : Nat, s.heap.size ≤ q → A q := fun q h => by rw [← hAe]; exact Or.inr h
  have hS : va_S A s.heap s.heap [] := va_S.rf
  have hl := lv_entry ([Value.ref h0, Value.int x, Value.int y]) (n := 3) (Nat.le_of_ble_eq_true rfl)
  rw [lg_entry_eq]
  generalize (lg_sl ([Value.ref h0, Value.int x, Value.int y]) ++ List.replicate (3 - (lg_sl ([Value.ref h0, Value.int x, Value.int y])).length) Slot.unset).toArray = ls at hl ⊢
  have hl : lv_has ls 3 [(0, Value.ref h0), (1, Value.int x), (2, Value.int y)] := hl
  have hP : va_P D vwCl [(h0, Sum.inr (9, [Value.ref m_tape, Value.int (nI ln), Value.int s_thrown, Value.ref m_rule, Value.ref m_rules, Value.int (nI sn), Value.ref m_stair, Value.int s_readStairs, Value.int s_fault, Value.int s_faultPlace, Value.int (nI w), Value.int (nI h), Value.ref m_low, Value.ref m_high, Value.ref m_crack, Value.int (nI bc), Value.ref m_weight, Value.ref m_fire, Value.ref m_crowd, Value.ref m_state, Value.ref m_where, Value.int s_hours, Value.int s_fees, Value.int s_looks, Value.ref m_words, Value.int s_end, Value.int s_next, Value.int s_kind, Value.int s_which, Value.int s_place, Value.int s_read, Value.ref m_told, Value.ref m_breaks, Value.ref m_row, Value.ref m_tried, Value.ref m_steps, Value.ref m_paths]))] s.heap := hP
  refine lv_iload_n hx hb dX10_isCell_0 rfl (lv_at hl 1 rfl) ?_
  refine lv_if_lt (tgt := 28) hx hb dX10_isCell_1 (by decide) (fun c_1 => ?_) (fun c_1 => ?_)
  · skip
    refine lv_iconst (v := 0) hx hb dX10_isCell_28 (by decide) ?_
    have hP9 := hP.sub (ws' := [(h0, Sum.inr (9, [Value.ref m_tape, Value.int (nI ln), Value.int s_thrown, Value.ref m_rule, Value.ref m_rules, Value.int (nI sn), Value.ref m_stair, Value.int s_readStairs, Value.int s_fault, Value.int s_faultPlace, Value.int (nI w), Value.int (nI h), Value.ref m_low, Value.ref m_high, Value.ref m_crack, Value.int (nI bc), Value.ref m_weight, Value.ref m_fire, Value.ref m_crowd, Value.ref m_state, Value.ref m_where, Value.int s_hours, Value.int s_fees, Value.int s_looks, Value.ref m_words, Value.int s_end, Value.int s_next, Value.int s_kind, Value.int s_which, Value.int s_place, Value.int s_read, Value.ref m_told, Value.ref m_breaks, Value.ref m_row, Value.ref m_tried, Value.ref m_steps, Value.ref m_paths]))]) [0] rfl
    have hD9 := hD.sub (ws' := [(h0, Sum.inr (9, [Value.ref m_tape, Value.int (nI ln), Value.int s_thrown, Value.ref m_rule, Value.ref m_rules, Value.int (nI sn), Value.ref m_stair, Value.int s_readStairs, Value.int s_fault, Value.int s_faultPlace, Value.int (nI w), Value.int (nI h), Value.ref m_low, Value.ref m_high, Value.ref m_crack, Value.int (nI bc), Value.ref m_weight, Value.ref m_fire, Value.ref m_crowd, Value.ref m_state, Value.ref m_where, Value.int s_hours, Value.int s_fees, Value.int s_looks, Value.ref m_words, Value.int s_end, Value.int s_next, Value.int s_kind, Value.int s_which, Value.int s_place, Value.int s_read, Value.ref m_told, Value.ref m_breaks, Value.ref m_row, Value.ref m_tried, Value.ref m_steps, Value.ref m_paths]))]) [0] (by decide) rfl
    have hK9 := hK.sub (tys' := []) [] rfl
    refine W.widen (k := 0) (n := 0) (by decide) (by decide) ?_
    exact W.zret (v := 0) hx hb hr rfl (fun t ht hW => ⟨⟨0, (), rfl, by simp only [c_1, or_false, false_or, or_true, true_or, not_true_eq_false, not_false_eq_true, ↓reduceIte], by rw [ht]; exact hP9, va_K.moved hW.alike hK9, hD9⟩, hS.F ht⟩) hS.2.2 dX10_isCell_29
  · skip
    refine lv_iload_n hx hb dX10_isCell_4 rfl (lv_at hl 1 rfl) ?_
    refine lv_aload_n hx hb dX10_isCell_5 rfl (lv_at hl 0 rfl) ?_
    refine va_get (D := D) (ci := 9) (v := Value.int (nI w)) (C := RX10) (T := TX10) (N := 37) hx hb hts inG_X10 hown hK hP 0 rfl rfl 10 (by decide) (hts _ kw_4_205) (fun _ h9 => h9) rfl dX10_isCell_6 ?_
    refine lv_icmp_ge (tgt := 28) hx hb dX10_isCell_9 (by decide) (fun c_2 => ?_) (fun c_2 => ?_)
    · skip
      have c_2 := Int32.not_lt.mpr c_2
      refine lv_iconst (v := 0) hx hb dX10_isCell_28 (by decide) ?_
      have hP9 := hP.sub (ws' := [(h0, Sum.inr (9, [Value.ref m_tape, Value.int (nI ln), Value.int s_thrown, Value.ref m_rule, Value.ref m_rules, Value.int (nI sn), Value.ref m_stair, Value.int s_readStairs, Value.int s_fault, Value.int s_faultPlace, Value.int (nI w), Value.int (nI h), Value.ref m_low, Value.ref m_high, Value.ref m_crack, Value.int (nI bc), Value.ref m_weight, Value.ref m_fire, Value.ref m_crowd, Value.ref m_state, Value.ref m_where, Value.int s_hours, Value.int s_fees, Value.int s_looks, Value.ref m_words, Value.int s_end, Value.int s_next, Value.int s_kind, Value.int s_which, Value.int s_place, Value.int s_read, Value.ref m_told, Value.ref m_breaks, Value.ref m_row, Value.ref m_tried, Value.ref m_steps, Value.ref m_paths]))]) [0] rfl
      have hD9 := hD.sub (ws' := [(h0, Sum.inr (9, [Value.ref m_tape, Value.int (nI ln), Value.int s_thrown, Value.ref m_rule, Value.ref m_rules, Value.int (nI sn), Value.ref m_stair, Value.int s_readStairs, Value.int s_fault, Value.int s_faultPlace, Value.int (nI w), Value.int (nI h), Value.ref m_low, Value.ref m_high, Value.ref m_crack, Value.int (nI bc), Value.ref m_weight, Value.ref m_fire, Value.ref m_crowd, Value.ref m_state, Value.ref m_where, Value.int s_hours, Value.int s_fees, Value.int s_looks, Value.ref m_words, Value.int s_end, Value.int s_next, Value.int s_kind, Value.int s_which, Value.int s_place, Value.int s_read, Value.ref m_told, Value.ref m_breaks, Value.ref m_row, Value.ref m_tried, Value.ref m_steps, Value.ref m_paths]))]) [0] (by decide) rfl
      have hK9 := hK.sub (tys' := []) [] rfl
      refine W.widen (k := 0) (n := 0) (by decide) (by decide) ?_
      exact W.zret (v := 0) hx hb hr rfl (fun t ht hW => ⟨⟨0, (), rfl, by simp only [c_1, c_2, or_false, false_or, or_true, true_or, not_true_eq_false, not_false_eq_true, ↓reduceIte], by rw [ht]; exact hP9, va_K.moved hW.alike hK9, hD9⟩, hS.F ht⟩) hS.2.2 dX10_isCell_29
    · skip
      have c_2 := Int32.not_le.mp c_2
      refine lv_iload_n hx hb dX10_isCell_12 rfl (lv_at hl 2 rfl) ?_
      refine lv_if_lt (tgt := 28) hx hb dX10_isCell_13 (by decide) (fun c_3 => ?_) (fun c_3 => ?_)
      · skip
        refine lv_iconst (v := 0) hx hb dX10_isCell_28 (by decide) ?_
        have hP9 := hP.sub (ws' := [(h0, Sum.inr (9, [Value.ref m_tape, Value.int (nI ln), Value.int s_thrown, Value.ref m_rule, Value.ref m_rules, Value.int (nI sn), Value.ref m_stair, Value.int s_readStairs, Value.int s_fault, Value.int s_faultPlace, Value.int (nI w), Value.int (nI h), Value.ref m_low, Value.ref m_high, Value.ref m_crack, Value.int (nI bc), Value.ref m_weight, Value.ref m_fire, Value.ref m_crowd, Value.ref m_state, Value.ref m_where, Value.int s_hours, Value.int s_fees, Value.int s_looks, Value.ref m_words, Value.int s_end, Value.int s_next, Value.int s_kind, Value.int s_which, Value.int s_place, Value.int s_read, Value.ref m_told, Value.ref m_breaks, Value.ref m_row, Value.ref m_tried, Value.ref m_steps, Value.ref m_paths]))]) [0] rfl
        have hD9 := hD.sub (ws' := [(h0, Sum.inr (9, [Value.ref m_tape, Value.int (nI ln), Value.int s_thrown, Value.ref m_rule, Value.ref m_rules, Value.int (nI sn), Value.ref m_stair, Value.int s_readStairs, Value.int s_fault, Value.int s_faultPlace, Value.int (nI w), Value.int (nI h), Value.ref m_low, Value.ref m_high, Value.ref m_crack, Value.int (nI bc), Value.ref m_weight, Value.ref m_fire, Value.ref m_crowd, Value.ref m_state, Value.ref m_where, Value.int s_hours, Value.int s_fees, Value.int s_looks, Value.ref m_words, Value.int s_end, Value.int s_next, Value.int s_kind, Value.int s_which, Value.int s_place, Value.int s_read, Value.ref m_told, Value.ref m_breaks, Value.ref m_row, Value.ref m_tried, Value.ref m_steps, Value.ref m_paths]))]) [0] (by decide) rfl
        have hK9 := hK.sub (tys' := []) [] rfl
        refine W.widen (k := 0) (n := 0) (by decide) (by decide) ?_
        exact W.zret (v := 0) hx hb hr rfl (fun t ht hW => ⟨⟨0, (), rfl, by simp only [c_1, c_2, c_3, or_false, false_or, or_true, true_or, not_true_eq_false, not_false_eq_true, ↓reduceIte], by rw [ht]; exact hP9, va_K.moved hW.alike hK9, hD9⟩, hS.F ht⟩) hS.2.2 dX10_isCell_29
      · skip
        refine lv_iload_n hx hb dX10_isCell_16 rfl (lv_at hl 2 rfl) ?_
        refine lv_aload_n hx hb dX10_isCell_17 rfl (lv_at hl 0 rfl) ?_
        refine va_get (D := D) (ci := 9) (v := Value.int (nI h)) (C := RX10) (T := TX10) (N := 37) hx hb hts inG_X10 hown hK hP 0 rfl rfl 11 (by decide) (hts _ kw_4_206) (fun _ h9 => h9) rfl dX10_isCell_18 ?_
        refine lv_icmp_ge (tgt := 28) hx hb dX10_isCell_21 (by decide) (fun c_4 => ?_) (fun c_4 => ?_)
        · skip
          have c_4 := Int32.not_lt.mpr c_4
          refine lv_iconst (v := 0) hx hb dX10_isCell_28 (by decide) ?_
          have hP9 := hP.sub (ws' := [(h0, Sum.inr (9, [Value.ref m_tape, Value.int (nI ln), Value.int s_thrown, Value.ref m_rule, Value.ref m_rules, Value.int (nI sn), Value.ref m_stair, Value.int s_readStairs, Value.int s_fault, Value.int s_faultPlace, Value.int (nI w), Value.int (nI h), Value.ref m_low, Value.ref m_high, Value.ref m_crack, Value.int (nI bc), Value.ref m_weight, Value.ref m_fire, Value.ref m_crowd, Value.ref m_state, Value.ref m_where, Value.int s_hours, Value.int s_fees, Value.int s_looks, Value.ref m_words, Value.int s_end, Value.int s_next, Value.int s_kind, Value.int s_which, Value.int s_place, Value.int s_read, Value.ref m_told, Value.ref m_breaks, Value.ref m_row, Value.ref m_tried, Value.ref m_steps, Value.ref m_paths]))]) [0] rfl
          have hD9 := hD.sub (ws' := [(h0, Sum.inr (9, [Value.ref m_tape, Value.int (nI ln), Value.int s_thrown, Value.ref m_rule, Value.ref m_rules, Value.int (nI sn), Value.ref m_stair, Value.int s_readStairs, Value.int s_fault, Value.int s_faultPlace, Value.int (nI w), Value.int (nI h), Value.ref m_low, Value.ref m_high, Value.ref m_crack, Value.int (nI bc), Value.ref m_weight, Value.ref m_fire, Value.ref m_crowd, Value.ref m_state, Value.ref m_where, Value.int s_hours, Value.int s_fees, Value.int s_looks, Value.ref m_words, Value.int s_end, Value.int s_next, Value.int s_kind, Value.int s_which, Value.int s_place, Value.int s_read, Value.ref m_told, Value.ref m_breaks, Value.ref m_row, Value.ref m_tried, Value.ref m_steps, Value.ref m_paths]))]) [0] (by decide) rfl
          have hK9 := hK.sub (tys' := []) [] rfl
          refine W.widen (k := 0) (n := 0) (by decide) (by decide) ?_
          exact W.zret (v := 0) hx hb hr rfl (fun t ht hW => ⟨⟨0, (), rfl, by simp only [c_1, c_2, c_3, c_4, or_false, false_or, or_true, true_or, not_true_eq_false, not_false_eq_true, ↓reduceIte], by rw [ht]; exact hP9, va_K.moved hW.alike hK9, hD9⟩, hS.F ht⟩) hS.2.2 dX10_isCell_29
        · skip
          have c_4 := Int32.not_le.mp c_4
          refine lv_iconst (v := 1) hx hb dX10_isCell_24 (by decide) ?_
          refine lv_goto (tgt := 29) hx hb dX10_isCell_25 (by decide) ?_
          have hP9 := hP.sub (ws' := [(h0, Sum.inr (9, [Value.ref m_tape, Value.int (nI ln), Value.int s_thrown, Value.ref m_rule, Value.ref m_rules, Value.int (nI sn), Value.ref m_stair, Value.int s_readStairs, Value.int s_fault, Value.int s_faultPlace, Value.int (nI w), Value.int (nI h), Value.ref m_low, Value.ref m_high, Value.ref m_crack, Value.int (nI bc), Value.ref m_weight, Value.ref m_fire, Value.ref m_crowd, Value.ref m_state, Value.ref m_where, Value.int s_hours, Value.int s_fees, Value.int s_looks, Value.ref m_words, Value.int s_end, Value.int s_next, Value.int s_kind, Value.int s_which, Value.int s_place, Value.int s_read, Value.ref m_told, Value.ref m_breaks, Value.ref m_row, Value.ref m_tried, Value.ref m_steps, Value.ref m_paths]))]) [0] rfl
          have hD9 := hD.sub (ws' := [(h0, Sum.inr (9, [Value.ref m_tape, Value.int (nI ln), Value.int s_thrown, Value.ref m_rule, Value.ref m_rules, Value.int (nI sn), Value.ref m_stair, Value.int s_readStairs, Value.int s_fault, Value.int s_faultPlace, Value.int (nI w), Value.int (nI h), Value.ref m_low, Value.ref m_high, Value.ref m_crack, Value.int (nI bc), Value.ref m_weight, Value.ref m_fire, Value.ref m_crowd, Value.ref m_state, Value.ref m_where, Value.int s_hours, Value.int s_fees, Value.int s_looks, Value.ref m_words, Value.int s_end, Value.int s_next, Value.int s_kind, Value.int s_which, Value.int s_place, Value.int s_read, Value.ref m_told, Value.ref m_breaks, Value.ref m_row, Value.ref m_tried, Value.ref m_steps, Value.ref m_paths]))]) [0] (by decide) rfl
          have hK9 := hK.sub (tys' := []) [] rfl
          refine W.widen (k := 0) (n := 0) (by decide) (by decide) ?_
          exact W.zret (v := 1) hx hb hr rfl (fun t ht hW => ⟨⟨1, (), rfl, by simp only [c_1, c_2, c_3, c_4, or_false, false_or, or_true, true_or, not_true_eq_false, not_false_eq_true, ↓reduceIte], by rw [ht]; exact hP9, va_K.moved hW.alike hK9, hD9⟩, hS.F ht⟩) hS.2.2 dX10_isCell_29
set_option maxHeartbeats 4000000 in
set_option maxRecDepth 100000 in
theorem n_size (l : Launch) (D : va_G) (x : Int32) : cI l yX10_size (.code yX10_size cX10_size 1 (some .int)) ({ frames := 0, cells := 0, slots := 0, locals := 0 }) D [] [] xT [Value.int x] (S := Unit) (fun r _ => r = r) (fun _ => []) (fun _ => []) := by
  intro sz
  refine Met.ofW (cc := cX10_size) (maxL := 1) (ret := (some .int)) (by decide) rfl ?_
  intro p e s m args below meth c s₁ B hml hv
  obtain ⟨rfl, hsz, hP, hK, hD0, hX⟩ := hv
  have hx := B.exec
  have hb := B.bytes
  have hr := B.returns
  have hts0 := atoms_spec (ws := .code yX10_size cX10_size 1 (some .int) :: gw) B.pre
  have hts := fun (w : Cond) (h : w ∈ gw) => hts0 w (List.mem_cons_of_mem _ h)
  have hown : s.vm.findClass RX10 = some m.cls := findClass_of_methodNamed B.named
  have hlocks := B.notSynchronized
  have F : mFix p s m _ c cX10_size 1 RX10 := ⟨hx, hb, hml, hown, hts⟩
  subst hsz
  have hD := hD0.self (sz := s.heap.size)
  generalize hAe : va_A [] s.heap.size = A at hD hX ⊢
  have hA : ∀ q : Nat, s.heap.size ≤ q → A q := fun q h => by rw [← hAe]; exact Or.inr h
  have hS : va_S A s.heap s.heap [] := va_S.rf
  have hl := lv_entry ([Value.int x]) (n := 1) (Nat.le_of_ble_eq_true rfl)
  rw [lg_entry_eq]
  generalize (lg_sl ([Value.int x]) ++ List.replicate (1 - (lg_sl ([Value.int x])).length) Slot.unset).toArray = ls at hl ⊢
  have hl : lv_has ls 1 [(0, Value.int x)] := hl
  have hP : va_P D vwCl [] s.heap := hP
  refine lv_iload_n hx hb dX10_size_0 rfl (lv_at hl 0 rfl) ?_
  refine lv_if_ge (tgt := 9) hx hb dX10_size_1 (by decide) (fun c_1 => ?_) (fun c_1 => ?_)
  · skip
    have c_1 := Int32.not_lt.mpr c_1
    refine lv_iload_n hx hb dX10_size_9 rfl (lv_at hl 0 rfl) ?_
    have hP9 := hP.sub (ws' := []) [] rfl
    have hD9 := hD.sub (ws' := []) [] (by decide) rfl
    have hK9 := hK.sub (tys' := []) [] rfl
    refine W.widen (k := 0) (n := 0) (by decide) (by decide) ?_
    exact W.iret (v := x) hx hb hr (fun t ht hW => ⟨⟨x, (), rfl, rfl, by rw [ht]; exact hP9, va_K.moved hW.alike hK9, hD9⟩, hS.F ht⟩) hS.2.2 dX10_size_10
  · skip
    have c_1 := Int32.not_le.mp c_1
    refine lv_iload_n hx hb dX10_size_4 rfl (lv_at hl 0 rfl) ?_
    refine lv_ineg hx hb dX10_size_5 ?_
    refine lv_topi (fun z_2 ez_2 => ?_)
    refine lv_goto (tgt := 10) hx hb dX10_size_6 (by decide) ?_
    have hP9 := hP.sub (ws' := []) [] rfl
    have hD9 := hD.sub (ws' := []) [] (by decide) rfl
    have hK9 := hK.sub (tys' := []) [] rfl
    refine W.widen (k := 0) (n := 0) (by decide) (by decide) ?_
    exact W.iret (v := z_2) hx hb hr (fun t ht hW => ⟨⟨z_2, (), rfl, rfl, by rw [ht]; exact hP9, va_K.moved hW.alike hK9, hD9⟩, hS.F ht⟩) hS.2.2 dX10_size_10
set_option maxHeartbeats 4000000 in
set_option maxRecDepth 100000 in
theorem n_far (l : Launch) (D : va_G) (x : Int32) (y : Int32) : cI l yX10_far (.code yX10_far cX10_far 4 (some .int)) ({ frames := 1, cells := 0, slots := 0, locals := 20 }) D [] [] xT [Value.int x, Value.int y] (S := Unit) (fun r _ => r = r) (fun _ => []) (fun _ => []) := by
  intro sz
  refine Met.ofW (cc := cX10_far) (maxL := 4) (ret := (some .int)) (by decide) rfl ?_
  intro p e s m args below meth c s₁ B hml hv
  obtain ⟨rfl, hsz, hP, hK, hD0, hX⟩ := hv
  have hx := B.exec
  have hb := B.bytes
  have hr := B.returns
  have hts0 := atoms_spec (ws := .code yX10_far cX10_far 4 (some .int) :: gw) B.pre
  have hts := fun (w : Cond) (h : w ∈ gw) => hts0 w (List.mem_cons_of_mem _ h)
  have hown : s.vm.findClass RX10 = some m.cls := findClass_of_methodNamed B.named
  have hlocks := B.notSynchronized
  have F : mFix p s m _ c cX10_far 4 RX10 := ⟨hx, hb, hml, hown, hts⟩
  subst hsz
  have hD := hD0.self (sz := s.heap.size)
  generalize hAe : va_A [] s.heap.size = A at hD hX ⊢
  have hA : ∀ q : Nat, s.heap.size ≤ q → A q := fun q h => by rw [← hAe]; exact Or.inr h
  have hS : va_S A s.heap s.heap [] := va_S.rf
  have hl := lv_entry ([Value.int x, Value.int y]) (n := 4) (Nat.le_of_ble_eq_true rfl)
  rw [lg_entry_eq]
  generalize (lg_sl ([Value.int x, Value.int y]) ++ List.replicate (4 - (lg_sl ([Value.int x, Value.int y])).length) Slot.unset).toArray = ls at hl ⊢
  have hl : lv_has ls 4 [(0, Value.int x), (1, Value.int y)] := hl
  have hP : va_P D vwCl [] s.heap := hP
  refine lv_iload_n hx hb dX10_far_0 rfl (lv_at hl 0 rfl) ?_
  refine lv_bipush (v := 10) hx hb dX10_far_1 (by decide) ?_
  refine lv_irem hx hb dX10_far_3 (by decide) ?_
  refine lv_topi (fun z_1 ez_1 => ?_)
  refine lv_iload_n hx hb dX10_far_4 rfl (lv_at hl 1 rfl) ?_
  refine lv_bipush (v := 10) hx hb dX10_far_5 (by decide) ?_
  refine lv_irem hx hb dX10_far_7 (by decide) ?_
  refine lv_topi (fun z_2 ez_2 => ?_)
  refine lv_isub hx hb dX10_far_8 ?_
  refine lv_topi (fun z_3 ez_3 => ?_)
  refine mc_Si (rest := []) (wr := []) F hK hP hD hS hA (n_size l D z_3 ) ⟨gk_X10_158.1, gk_X10_158.2, Nat.le_of_ble_eq_true rfl, Nat.le_of_ble_eq_true rfl⟩ [] [] [] ⟨rfl, rfl, rfl, rfl, by decide⟩ rfl xT_move (fun _ _ _ => trivial) rfl hl.1 rfl (Nat.le_of_ble_eq_true rfl) dX10_far_9 ⟨Nat.le_of_ble_eq_true rfl, Nat.le_of_ble_eq_true rfl⟩ (fun r_4 _ H locs hw hK1 hP hD hS => ?_)
  have hP : va_P D vwCl [] H := hP
  have hD : va_D A [] := hD
  have hw_5 : r_4 = r_4 := hw
  refine lv_istore_n (lv' := [(2, Value.int r_4), (0, Value.int x), (1, Value.int y)]) hx hb dX10_far_12 rfl hl (by decide) rfl (fun ls hl => ?_)
  refine lv_iload_n hx hb dX10_far_13 rfl (lv_at hl 1 rfl) ?_
  refine lv_bipush (v := 10) hx hb dX10_far_14 (by decide) ?_
  refine lv_idiv hx hb dX10_far_16 (by decide) ?_
  refine lv_topi (fun z_6 ez_6 => ?_)
  refine lv_iload_n hx hb dX10_far_17 rfl (lv_at hl 2 rfl) ?_
  refine lv_bipush (v := 10) hx hb dX10_far_18 (by decide) ?_
  refine lv_idiv hx hb dX10_far_20 (by decide) ?_
  refine lv_topi (fun z_7 ez_7 => ?_)
  refine lv_isub hx hb dX10_far_21 ?_
  refine lv_topi (fun z_8 ez_8 => ?_)
  refine mc_Si (rest := []) (wr := []) F hK hP hD hS hA (n_size l D z_8 ) ⟨gk_X10_158.1, gk_X10_158.2, Nat.le_of_ble_eq_true rfl, Nat.le_of_ble_eq_true rfl⟩ [] [] [] ⟨rfl, rfl, rfl, rfl, by decide⟩ rfl xT_move (fun _ _ _ => trivial) rfl hl.1 rfl (Nat.le_of_ble_eq_true rfl) dX10_far_22 ⟨Nat.le_of_ble_eq_true rfl, Nat.le_of_ble_eq_true rfl⟩ (fun r_9 _ H locs hw hK1 hP hD hS => ?_)
  have hP : va_P D vwCl [] H := hP
  have hD : va_D A [] := hD
  have hw_10 : r_9 = r_9 := hw
  refine lv_istore_n (lv' := [(3, Value.int r_9), (2, Value.int r_4), (0, Value.int x), (1, Value.int y)]) hx hb dX10_far_25 rfl hl (by decide) rfl (fun ls hl => ?_)
  refine lv_iload_n hx hb dX10_far_26 rfl (lv_at hl 1 rfl) ?_
  refine lv_iload_n hx hb dX10_far_27 rfl (lv_at hl 0 rfl) ?_
  refine lv_icmp_le (tgt := 35) hx hb dX10_far_28 (by decide) (fun c_11 => ?_) (fun c_11 => ?_)
  · skip
    have c_11 := Int32.not_lt.mpr c_11
    refine lv_iload_n hx hb dX10_far_35 rfl (lv_at hl 0 rfl) ?_
    have hP9 := hP.sub (ws' := []) [] rfl
    have hD9 := hD.sub (ws' := []) [] (by decide) rfl
    have hK9 := hK.sub (tys' := []) [] rfl
    refine W.widen (k := 0) (n := 0) (by decide) (by decide) ?_
    exact W.iret (v := r_9) hx hb hr (fun t ht hW => ⟨⟨r_9, (), rfl, rfl, by rw [ht]; exact hP9, va_K.moved hW.alike hK9, hD9⟩, hS.F ht⟩) hS.2.2 dX10_far_36
  · skip
    have c_11 := Int32.not_le.mp c_11
    refine lv_iload_n hx hb dX10_far_31 rfl (lv_at hl 1 rfl) ?_
    refine lv_goto (tgt := 36) hx hb dX10_far_32 (by decide) ?_
    have hP9 := hP.sub (ws' := []) [] rfl
    have hD9 := hD.sub (ws' := []) [] (by decide) rfl
    have hK9 := hK.sub (tys' := []) [] rfl
    refine W.widen (k := 0) (n := 0) (by decide) (by decide) ?_
    exact W.iret (v := r_4) hx hb hr (fun t ht hW => ⟨⟨r_4, (), rfl, rfl, by rw [ht]; exact hP9, va_K.moved hW.alike hK9, hD9⟩, hS.F ht⟩) hS.2.2 dX10_far_36
set_option maxHeartbeats 4000000 in
set_option maxRecDepth 100000 in
theorem n_fails (l : Launch) (D : va_G) (h0 : Nat) (m_tape : Nat) (ln : Nat) (s_thrown : Int32) (m_rule : Nat) (m_rules : Nat) (sn : Nat) (m_stair : Nat) (s_readStairs : Int32) (s_fault : Int32) (s_faultPlace : Int32) (w : Nat) (h : Nat) (m_low : Nat) (m_high : Nat) (m_crack : Nat) (bc : Nat) (m_weight : Nat) (m_fire : Nat) (m_crowd : Nat) (m_state : Nat) (m_where : Nat) (s_hours : Int32) (s_fees : Int32) (s_looks : Int32) (m_words : Nat) (s_end : Int32) (s_next : Int32) (s_kind : Int32) (s_which : Int32) (s_place : Int32) (s_read : Int32) (m_told : Nat) (m_breaks : Nat) (m_row : Nat) (m_tried : Nat) (m_steps : Nat) (m_paths : Nat) (x : Int32) : cI l yX10_fails (.code yX10_fails cX10_fails 2 (some .int)) ({ frames := 0, cells := 0, slots := 0, locals := 0 }) D [] [(h0, Sum.inr (9, [Value.ref m_tape, Value.int (nI ln), Value.int s_thrown, Value.ref m_rule, Value.ref m_rules, Value.int (nI sn), Value.ref m_stair, Value.int s_readStairs, Value.int s_fault, Value.int s_faultPlace, Value.int (nI w), Value.int (nI h), Value.ref m_low, Value.ref m_high, Value.ref m_crack, Value.int (nI bc), Value.ref m_weight, Value.ref m_fire, Value.ref m_crowd, Value.ref m_state, Value.ref m_where, Value.int s_hours, Value.int s_fees, Value.int s_looks, Value.ref m_words, Value.int s_end, Value.int s_next, Value.int s_kind, Value.int s_which, Value.int s_place, Value.int s_read, Value.ref m_told, Value.ref m_breaks, Value.ref m_row, Value.ref m_tried, Value.ref m_steps, Value.ref m_paths]))] xT [Value.ref h0, Value.int x] (S := Unit) (fun r _ => r = r) (fun _ => []) (fun _ => [(h0, Sum.inr (9, [Value.ref m_tape, Value.int (nI ln), Value.int x, Value.ref m_rule, Value.ref m_rules, Value.int (nI sn), Value.ref m_stair, Value.int s_readStairs, Value.int s_fault, Value.int s_faultPlace, Value.int (nI w), Value.int (nI h), Value.ref m_low, Value.ref m_high, Value.ref m_crack, Value.int (nI bc), Value.ref m_weight, Value.ref m_fire, Value.ref m_crowd, Value.ref m_state, Value.ref m_where, Value.int s_hours, Value.int s_fees, Value.int s_looks, Value.ref m_words, Value.int s_end, Value.int s_next, Value.int s_kind, Value.int s_which, Value.int s_place, Value.int s_read, Value.ref m_told, Value.ref m_breaks, Value.ref m_row, Value.ref m_tried, Value.ref m_steps, Value.ref m_paths]))]) := by
  intro sz
  refine Met.ofW (cc := cX10_fails) (maxL := 2) (ret := (some .int)) (by decide) rfl ?_
  intro p e s m args below meth c s₁ B hml hv
  obtain ⟨rfl, hsz, hP, hK, hD0, hX⟩ := hv
  have hx := B.exec
  have hb := B.bytes
  have hr := B.returns
  have hts0 := atoms_spec (ws := .code yX10_fails cX10_fails 2 (some .int) :: gw) B.pre
  have hts := fun (w : Cond) (h : w ∈ gw) => hts0 w (List.mem_cons_of_mem _ h)
  have hown : s.vm.findClass RX10 = some m.cls := findClass_of_methodNamed B.named
  have hlocks := B.notSynchronized
  have F : mFix p s m _ c cX10_fails 2 RX10 := ⟨hx, hb, hml, hown, hts⟩
  subst hsz
  have hD := hD0.self (sz := s.heap.size)
  generalize hAe : va_A [(h0, Sum.inr (9, [Value.ref m_tape, Value.int (nI ln), Value.int s_thrown, Value.ref m_rule, Value.ref m_rules, Value.int (nI sn), Value.ref m_stair, Value.int s_readStairs, Value.int s_fault, Value.int s_faultPlace, Value.int (nI w), Value.int (nI h), Value.ref m_low, Value.ref m_high, Value.ref m_crack, Value.int (nI bc), Value.ref m_weight, Value.ref m_fire, Value.ref m_crowd, Value.ref m_state, Value.ref m_where, Value.int s_hours, Value.int s_fees, Value.int s_looks, Value.ref m_words, Value.int s_end, Value.int s_next, Value.int s_kind, Value.int s_which, Value.int s_place, Value.int s_read, Value.ref m_told, Value.ref m_breaks, Value.ref m_row, Value.ref m_tried, Value.ref m_steps, Value.ref m_paths]))] s.heap.size = A at hD hX ⊢
  have hA : ∀ q : Nat, s.heap.size ≤ q → A q := fun q h => by rw [← hAe]; exact Or.inr h
  have hS : va_S A s.heap s.heap [] := va_S.rf
  have hl := lv_entry ([Value.ref h0, Value.int x]) (n := 2) (Nat.le_of_ble_eq_true rfl)
  rw [lg_entry_eq]
  generalize (lg_sl ([Value.ref h0, Value.int x]) ++ List.replicate (2 - (lg_sl ([Value.ref h0, Value.int x])).length) Slot.unset).toArray = ls at hl ⊢
  have hl : lv_has ls 2 [(0, Value.ref h0), (1, Value.int x)] := hl
  have hP : va_P D vwCl [(h0, Sum.inr (9, [Value.ref m_tape, Value.int (nI ln), Value.int s_thrown, Value.ref m_rule, Value.ref m_rules, Value.int (nI sn), Value.ref m_stair, Value.int s_readStairs, Value.int s_fault, Value.int s_faultPlace, Value.int (nI w), Value.int (nI h), Value.ref m_low, Value.ref m_high, Value.ref m_crack, Value.int (nI bc), Value.ref m_weight, Value.ref m_fire, Value.ref m_crowd, Value.ref m_state, Value.ref m_where, Value.int s_hours, Value.int s_fees, Value.int s_looks, Value.ref m_words, Value.int s_end, Value.int s_next, Value.int s_kind, Value.int s_which, Value.int s_place, Value.int s_read, Value.ref m_told, Value.ref m_breaks, Value.ref m_row, Value.ref m_tried, Value.ref m_steps, Value.ref m_paths]))] s.heap := hP
  refine lv_aload_n hx hb dX10_fails_0 rfl (lv_at hl 0 rfl) ?_
  refine lv_iload_n hx hb dX10_fails_1 rfl (lv_at hl 1 rfl) ?_
  refine va_put (D := D) (ci := 9) (v := Value.int x) (ty := .int) (C := RX10) (T := TX10) (N := 37) hx hb hts inG_X10 tyX10 tyX10_ok nmX10 hown hK hP hD hS 0 rfl rfl 2 (by decide) (hts _ kw_4_197) (fun _ h9 => h9) rfl (by decide +kernel) rfl rfl (Nat.le_of_ble_eq_true rfl) dX10_fails_2 (fun H locs hP hD hS => ?_)
  have hP : va_P D vwCl [(h0, Sum.inr (9, [Value.ref m_tape, Value.int (nI ln), Value.int x, Value.ref m_rule, Value.ref m_rules, Value.int (nI sn), Value.ref m_stair, Value.int s_readStairs, Value.int s_fault, Value.int s_faultPlace, Value.int (nI w), Value.int (nI h), Value.ref m_low, Value.ref m_high, Value.ref m_crack, Value.int (nI bc), Value.ref m_weight, Value.ref m_fire, Value.ref m_crowd, Value.ref m_state, Value.ref m_where, Value.int s_hours, Value.int s_fees, Value.int s_looks, Value.ref m_words, Value.int s_end, Value.int s_next, Value.int s_kind, Value.int s_which, Value.int s_place, Value.int s_read, Value.ref m_told, Value.ref m_breaks, Value.ref m_row, Value.ref m_tried, Value.ref m_steps, Value.ref m_paths]))] H := hP
  have hD : va_D A [(h0, Sum.inr (9, [Value.ref m_tape, Value.int (nI ln), Value.int x, Value.ref m_rule, Value.ref m_rules, Value.int (nI sn), Value.ref m_stair, Value.int s_readStairs, Value.int s_fault, Value.int s_faultPlace, Value.int (nI w), Value.int (nI h), Value.ref m_low, Value.ref m_high, Value.ref m_crack, Value.int (nI bc), Value.ref m_weight, Value.ref m_fire, Value.ref m_crowd, Value.ref m_state, Value.ref m_where, Value.int s_hours, Value.int s_fees, Value.int s_looks, Value.ref m_words, Value.int s_end, Value.int s_next, Value.int s_kind, Value.int s_which, Value.int s_place, Value.int s_read, Value.ref m_told, Value.ref m_breaks, Value.ref m_row, Value.ref m_tried, Value.ref m_steps, Value.ref m_paths]))] := hD
  refine lv_iconst (v := 0) hx hb dX10_fails_5 (by decide) ?_
  have hP9 := hP.sub (ws' := [(h0, Sum.inr (9, [Value.ref m_tape, Value.int (nI ln), Value.int x, Value.ref m_rule, Value.ref m_rules, Value.int (nI sn), Value.ref m_stair, Value.int s_readStairs, Value.int s_fault, Value.int s_faultPlace, Value.int (nI w), Value.int (nI h), Value.ref m_low, Value.ref m_high, Value.ref m_crack, Value.int (nI bc), Value.ref m_weight, Value.ref m_fire, Value.ref m_crowd, Value.ref m_state, Value.ref m_where, Value.int s_hours, Value.int s_fees, Value.int s_looks, Value.ref m_words, Value.int s_end, Value.int s_next, Value.int s_kind, Value.int s_which, Value.int s_place, Value.int s_read, Value.ref m_told, Value.ref m_breaks, Value.ref m_row, Value.ref m_tried, Value.ref m_steps, Value.ref m_paths]))]) [0] rfl
  have hD9 := hD.sub (ws' := [(h0, Sum.inr (9, [Value.ref m_tape, Value.int (nI ln), Value.int x, Value.ref m_rule, Value.ref m_rules, Value.int (nI sn), Value.ref m_stair, Value.int s_readStairs, Value.int s_fault, Value.int s_faultPlace, Value.int (nI w), Value.int (nI h), Value.ref m_low, Value.ref m_high, Value.ref m_crack, Value.int (nI bc), Value.ref m_weight, Value.ref m_fire, Value.ref m_crowd, Value.ref m_state, Value.ref m_where, Value.int s_hours, Value.int s_fees, Value.int s_looks, Value.ref m_words, Value.int s_end, Value.int s_next, Value.int s_kind, Value.int s_which, Value.int s_place, Value.int s_read, Value.ref m_told, Value.ref m_breaks, Value.ref m_row, Value.ref m_tried, Value.ref m_steps, Value.ref m_paths]))]) [0] (by decide) rfl
  have hK9 := hK.sub (tys' := []) [] rfl
  refine W.widen (k := 0) (n := 0) (by decide) (by decide) ?_
  exact W.iret (v := 0) hx hb hr (fun t ht hW => ⟨⟨0, (), rfl, rfl, by rw [ht]; exact hP9, va_K.moved hW.alike hK9, hD9⟩, hS.F ht⟩) hS.2.2 dX10_fails_6
set_option maxHeartbeats 4000000 in
set_option maxRecDepth 100000 in
theorem lp_n_strain {p : Program} {l : Launch} {e : Env} {s : State} {m : MethodId} {args : Array Value} {below : List Frame} {meth : Method} {c : Code} {Q : State → Prop} {A : Nat → Prop} {D : va_G} (F : mFix p s m args c cX10_strain 6 RX10) (hA : ∀ q, s.heap.size ≤ q → A q) (h0 : Nat) (m_tape : Nat) (ln : Nat) (s_thrown : Int32) (m_rule : Nat) (m_rules : Nat) (sn : Nat) (m_stair : Nat) (s_readStairs : Int32) (s_fault : Int32) (s_faultPlace : Int32) (w : Nat) (h : Nat) (m_low : Nat) (m_high : Nat) (m_crack : Nat) (bc : Nat) (m_weight : Nat) (m_fire : Nat) (m_crowd : Nat) (m_state : Nat) (m_where : Nat) (s_hours : Int32) (s_fees : Int32) (s_looks : Int32) (m_words : Nat) (s_end : Int32) (s_next : Int32) (s_kind : Int32) (s_which : Int32) (s_place : Int32) (s_read : Int32) (m_told : Nat) (m_breaks : Nat) (m_row : Nat) (m_tried : Nat) (m_steps : Nat) (m_paths : Nat) (y_state : ClassId) (f_state : Nat → Int32) (y_where : ClassId) (f_where : Nat → Int32) (y_weight : ClassId) (f_weight : Nat → Int32) (x : Int32) (hK : va_K D vwCl [(y_state, .int), (y_where, .int), (y_weight, .int)] s)
    (kx_120 : ∀ (su : Int32), ∀ (H : Heap) (locs : List Loc), va_P D vwCl [(h0, Sum.inr (9, [Value.ref m_tape, Value.int (nI ln), Value.int s_thrown, Value.ref m_rule, Value.ref m_rules, Value.int (nI sn), Value.ref m_stair, Value.int s_readStairs, Value.int s_fault, Value.int s_faultPlace, Value.int (nI w), Value.int (nI h), Value.ref m_low, Value.ref m_high, Value.ref m_crack, Value.int (nI bc), Value.ref m_weight, Value.ref m_fire, Value.ref m_crowd, Value.ref m_state, Value.ref m_where, Value.int s_hours, Value.int s_fees, Value.int s_looks, Value.ref m_words, Value.int s_end, Value.int s_next, Value.int s_kind, Value.int s_which, Value.int s_place, Value.int s_read, Value.ref m_told, Value.ref m_breaks, Value.ref m_row, Value.ref m_tried, Value.ref m_steps, Value.ref m_paths])), (m_state, Sum.inl (y_state, 10, Sum.inl f_state)), (m_where, Sum.inl (y_where, 10, Sum.inl f_where)), (m_weight, Sum.inl (y_weight, 10, Sum.inl f_weight))] H → va_D A [(h0, Sum.inr (9, [Value.ref m_tape, Value.int (nI ln), Value.int s_thrown, Value.ref m_rule, Value.ref m_rules, Value.int (nI sn), Value.ref m_stair, Value.int s_readStairs, Value.int s_fault, Value.int s_faultPlace, Value.int (nI w), Value.int (nI h), Value.ref m_low, Value.ref m_high, Value.ref m_crack, Value.int (nI bc), Value.ref m_weight, Value.ref m_fire, Value.ref m_crowd, Value.ref m_state, Value.ref m_where, Value.int s_hours, Value.int s_fees, Value.int s_looks, Value.ref m_words, Value.int s_end, Value.int s_next, Value.int s_kind, Value.int s_which, Value.int s_place, Value.int s_read, Value.ref m_told, Value.ref m_breaks, Value.ref m_row, Value.ref m_tried, Value.ref m_steps, Value.ref m_paths])), (m_state, Sum.inl (y_state, 10, Sum.inl f_state)), (m_where, Sum.inl (y_where, 10, Sum.inl f_where)), (m_weight, Sum.inl (y_weight, 10, Sum.inl f_weight))] → va_S A s.heap H locs → ∀ ls : Array Slot, lv_has ls 6 [(2, Value.int su)] → W p l e ({ frames := 1, cells := 0, slots := 0, locals := 20 }) s m args below meth c H locs 0 0 Q (F0 m 120 ls [])) :
    ∀ n : Nat, ∀ (su : Int32) (i : Nat), (i ≤ bc) → (bc ≤ 10) → (bc - i) < n → ∀ (H : Heap) (locs : List Loc), va_P D vwCl [(h0, Sum.inr (9, [Value.ref m_tape, Value.int (nI ln), Value.int s_thrown, Value.ref m_rule, Value.ref m_rules, Value.int (nI sn), Value.ref m_stair, Value.int s_readStairs, Value.int s_fault, Value.int s_faultPlace, Value.int (nI w), Value.int (nI h), Value.ref m_low, Value.ref m_high, Value.ref m_crack, Value.int (nI bc), Value.ref m_weight, Value.ref m_fire, Value.ref m_crowd, Value.ref m_state, Value.ref m_where, Value.int s_hours, Value.int s_fees, Value.int s_looks, Value.ref m_words, Value.int s_end, Value.int s_next, Value.int s_kind, Value.int s_which, Value.int s_place, Value.int s_read, Value.ref m_told, Value.ref m_breaks, Value.ref m_row, Value.ref m_tried, Value.ref m_steps, Value.ref m_paths])), (m_state, Sum.inl (y_state, 10, Sum.inl f_state)), (m_where, Sum.inl (y_where, 10, Sum.inl f_where)), (m_weight, Sum.inl (y_weight, 10, Sum.inl f_weight))] H → va_D A [(h0, Sum.inr (9, [Value.ref m_tape, Value.int (nI ln), Value.int s_thrown, Value.ref m_rule, Value.ref m_rules, Value.int (nI sn), Value.ref m_stair, Value.int s_readStairs, Value.int s_fault, Value.int s_faultPlace, Value.int (nI w), Value.int (nI h), Value.ref m_low, Value.ref m_high, Value.ref m_crack, Value.int (nI bc), Value.ref m_weight, Value.ref m_fire, Value.ref m_crowd, Value.ref m_state, Value.ref m_where, Value.int s_hours, Value.int s_fees, Value.int s_looks, Value.ref m_words, Value.int s_end, Value.int s_next, Value.int s_kind, Value.int s_which, Value.int s_place, Value.int s_read, Value.ref m_told, Value.ref m_breaks, Value.ref m_row, Value.ref m_tried, Value.ref m_steps, Value.ref m_paths])), (m_state, Sum.inl (y_state, 10, Sum.inl f_state)), (m_where, Sum.inl (y_where, 10, Sum.inl f_where)), (m_weight, Sum.inl (y_weight, 10, Sum.inl f_weight))] → va_S A s.heap H locs → ∀ ls : Array Slot, lv_has ls 6 [(0, Value.ref h0), (1, Value.int x), (2, Value.int su), (3, Value.int (nI i))] → W p l e ({ frames := 1, cells := 0, slots := 0, locals := 20 }) s m args below meth c H locs 0 0 Q (F0 m 4 ls []) := by
  intro n
  induction n with
  | zero => intro su i hi hbc hn; exact absurd hn (Nat.not_lt_zero _)
  | succ n ih =>
    intro su i hi hbc hn H locs hP hD hS ls hl
    obtain ⟨hx, hb, hml, hown, hts⟩ := id F
    refine lv_iload_n hx hb dX10_strain_4 rfl (lv_at hl 3 rfl) ?_
    refine lv_aload_n hx hb dX10_strain_5 rfl (lv_at hl 0 rfl) ?_
    refine va_get (D := D) (ci := 9) (v := Value.int (nI bc)) (C := RX10) (T := TX10) (N := 37) hx hb hts inG_X10 hown hK hP 0 rfl rfl 15 (by decide) (hts _ kw_4_210) (fun _ h9 => h9) rfl dX10_strain_6 ?_
    refine lv_icmp_ge (tgt := 120) hx hb dX10_strain_9 (by decide) (fun c_1 => ?_) (fun c_1 => ?_)
    · skip
      have c_1n : bc ≤ i := (nI_leI (by omega) (by omega)).mp c_1
      have c_1 := Int32.not_lt.mpr c_1
      exact kx_120 su  H locs (hP.sub [0, 1, 2, 3] rfl) (hD.sub [0, 1, 2, 3] (by decide) rfl) hS ls (lv_sub hl [2] rfl)
    · skip
      have c_1n : i < bc := nb_le (by omega) (by omega) c_1
      have c_1 := Int32.not_le.mp c_1
      refine lv_aload_n hx hb dX10_strain_12 rfl (lv_at hl 0 rfl) ?_
      refine va_get (D := D) (ci := 9) (v := Value.ref m_state) (C := RX10) (T := TX10) (N := 37) hx hb hts inG_X10 hown hK hP 0 rfl rfl 19 (by decide) (hts _ kw_4_214) (fun _ h9 => h9) rfl dX10_strain_13 ?_
      refine lv_iload_n hx hb dX10_strain_16 rfl (lv_at hl 3 rfl) ?_
      refine m_iald hx hb hK hP 1 0 rfl rfl i rfl (by omega) (by decide) dX10_strain_17 ?_
      refine lv_topi (fun v_2 ev_2 => ?_)
      refine lv_iconst (v := 1) hx hb dX10_strain_18 (by decide) ?_
      refine lv_icmp_eq (tgt := 25) hx hb dX10_strain_19 (by decide) (fun c_3 => ?_) (fun c_3 => ?_)
      · skip
        refine lv_aload_n hx hb dX10_strain_25 rfl (lv_at hl 0 rfl) ?_
        refine va_get (D := D) (ci := 9) (v := Value.ref m_where) (C := RX10) (T := TX10) (N := 37) hx hb hts inG_X10 hown hK hP 0 rfl rfl 20 (by decide) (hts _ kw_4_215) (fun _ h9 => h9) rfl dX10_strain_26 ?_
        refine lv_iload_n hx hb dX10_strain_29 rfl (lv_at hl 3 rfl) ?_
        refine m_iald hx hb hK hP 2 1 rfl rfl i rfl (by omega) (by decide) dX10_strain_30 ?_
        refine lv_topi (fun v_4 ev_4 => ?_)
        refine lv_bipush (v := 10) hx hb dX10_strain_31 (by decide) ?_
        refine lv_irem hx hb dX10_strain_33 (by decide) ?_
        refine lv_topi (fun z_5 ez_5 => ?_)
        refine lv_iload_n hx hb dX10_strain_34 rfl (lv_at hl 1 rfl) ?_
        refine lv_bipush (v := 10) hx hb dX10_strain_35 (by decide) ?_
        refine lv_irem hx hb dX10_strain_37 (by decide) ?_
        refine lv_topi (fun z_6 ez_6 => ?_)
        refine lv_isub hx hb dX10_strain_38 ?_
        refine lv_topi (fun z_7 ez_7 => ?_)
        refine mc_Si (rest := []) (wr := [(h0, Sum.inr (9, [Value.ref m_tape, Value.int (nI ln), Value.int s_thrown, Value.ref m_rule, Value.ref m_rules, Value.int (nI sn), Value.ref m_stair, Value.int s_readStairs, Value.int s_fault, Value.int s_faultPlace, Value.int (nI w), Value.int (nI h), Value.ref m_low, Value.ref m_high, Value.ref m_crack, Value.int (nI bc), Value.ref m_weight, Value.ref m_fire, Value.ref m_crowd, Value.ref m_state, Value.ref m_where, Value.int s_hours, Value.int s_fees, Value.int s_looks, Value.ref m_words, Value.int s_end, Value.int s_next, Value.int s_kind, Value.int s_which, Value.int s_place, Value.int s_read, Value.ref m_told, Value.ref m_breaks, Value.ref m_row, Value.ref m_tried, Value.ref m_steps, Value.ref m_paths])), (m_state, Sum.inl (y_state, 10, Sum.inl f_state)), (m_where, Sum.inl (y_where, 10, Sum.inl f_where)), (m_weight, Sum.inl (y_weight, 10, Sum.inl f_weight))]) F hK hP hD hS hA (n_size l D z_7 ) ⟨gk_X10_158.1, gk_X10_158.2, Nat.le_of_ble_eq_true rfl, Nat.le_of_ble_eq_true rfl⟩ [] [0, 1, 2, 3] [] ⟨rfl, rfl, rfl, rfl, by decide⟩ rfl xT_move (fun _ _ _ => trivial) rfl hl.1 rfl (Nat.le_of_ble_eq_true rfl) dX10_strain_39 ⟨Nat.le_of_ble_eq_true rfl, Nat.le_of_ble_eq_true rfl⟩ (fun r_8 _ H locs hw hK1 hP hD hS => ?_)
        have hP : va_P D vwCl [(h0, Sum.inr (9, [Value.ref m_tape, Value.int (nI ln), Value.int s_thrown, Value.ref m_rule, Value.ref m_rules, Value.int (nI sn), Value.ref m_stair, Value.int s_readStairs, Value.int s_fault, Value.int s_faultPlace, Value.int (nI w), Value.int (nI h), Value.ref m_low, Value.ref m_high, Value.ref m_crack, Value.int (nI bc), Value.ref m_weight, Value.ref m_fire, Value.ref m_crowd, Value.ref m_state, Value.ref m_where, Value.int s_hours, Value.int s_fees, Value.int s_looks, Value.ref m_words, Value.int s_end, Value.int s_next, Value.int s_kind, Value.int s_which, Value.int s_place, Value.int s_read, Value.ref m_told, Value.ref m_breaks, Value.ref m_row, Value.ref m_tried, Value.ref m_steps, Value.ref m_paths])), (m_state, Sum.inl (y_state, 10, Sum.inl f_state)), (m_where, Sum.inl (y_where, 10, Sum.inl f_where)), (m_weight, Sum.inl (y_weight, 10, Sum.inl f_weight))] H := hP
        have hD : va_D A [(h0, Sum.inr (9, [Value.ref m_tape, Value.int (nI ln), Value.int s_thrown, Value.ref m_rule, Value.ref m_rules, Value.int (nI sn), Value.ref m_stair, Value.int s_readStairs, Value.int s_fault, Value.int s_faultPlace, Value.int (nI w), Value.int (nI h), Value.ref m_low, Value.ref m_high, Value.ref m_crack, Value.int (nI bc), Value.ref m_weight, Value.ref m_fire, Value.ref m_crowd, Value.ref m_state, Value.ref m_where, Value.int s_hours, Value.int s_fees, Value.int s_looks, Value.ref m_words, Value.int s_end, Value.int s_next, Value.int s_kind, Value.int s_which, Value.int s_place, Value.int s_read, Value.ref m_told, Value.ref m_breaks, Value.ref m_row, Value.ref m_tried, Value.ref m_steps, Value.ref m_paths])), (m_state, Sum.inl (y_state, 10, Sum.inl f_state)), (m_where, Sum.inl (y_where, 10, Sum.inl f_where)), (m_weight, Sum.inl (y_weight, 10, Sum.inl f_weight))] := hD
        have hw_9 : r_8 = r_8 := hw
        refine lv_istore (lv' := [(4, Value.int r_8), (0, Value.ref h0), (1, Value.int x), (2, Value.int su), (3, Value.int (nI i))]) hx hb dX10_strain_42 hl (by decide) rfl (fun ls hl => ?_)
        refine lv_aload_n hx hb dX10_strain_44 rfl (lv_at hl 1 rfl) ?_
        refine va_get (D := D) (ci := 9) (v := Value.ref m_where) (C := RX10) (T := TX10) (N := 37) hx hb hts inG_X10 hown hK hP 0 rfl rfl 20 (by decide) (hts _ kw_4_215) (fun _ h9 => h9) rfl dX10_strain_45 ?_
        refine lv_iload_n hx hb dX10_strain_48 rfl (lv_at hl 4 rfl) ?_
        refine m_iald hx hb hK hP 2 1 rfl rfl i rfl (by omega) (by decide) dX10_strain_49 ?_
        refine lv_topi (fun v_10 ev_10 => ?_)
        refine lv_bipush (v := 10) hx hb dX10_strain_50 (by decide) ?_
        refine lv_idiv hx hb dX10_strain_52 (by decide) ?_
        refine lv_topi (fun z_11 ez_11 => ?_)
        refine lv_iload_n hx hb dX10_strain_53 rfl (lv_at hl 2 rfl) ?_
        refine lv_bipush (v := 10) hx hb dX10_strain_54 (by decide) ?_
        refine lv_idiv hx hb dX10_strain_56 (by decide) ?_
        refine lv_topi (fun z_12 ez_12 => ?_)
        refine lv_isub hx hb dX10_strain_57 ?_
        refine lv_topi (fun z_13 ez_13 => ?_)
        refine mc_Si (rest := []) (wr := [(h0, Sum.inr (9, [Value.ref m_tape, Value.int (nI ln), Value.int s_thrown, Value.ref m_rule, Value.ref m_rules, Value.int (nI sn), Value.ref m_stair, Value.int s_readStairs, Value.int s_fault, Value.int s_faultPlace, Value.int (nI w), Value.int (nI h), Value.ref m_low, Value.ref m_high, Value.ref m_crack, Value.int (nI bc), Value.ref m_weight, Value.ref m_fire, Value.ref m_crowd, Value.ref m_state, Value.ref m_where, Value.int s_hours, Value.int s_fees, Value.int s_looks, Value.ref m_words, Value.int s_end, Value.int s_next, Value.int s_kind, Value.int s_which, Value.int s_place, Value.int s_read, Value.ref m_told, Value.ref m_breaks, Value.ref m_row, Value.ref m_tried, Value.ref m_steps, Value.ref m_paths])), (m_state, Sum.inl (y_state, 10, Sum.inl f_state)), (m_where, Sum.inl (y_where, 10, Sum.inl f_where)), (m_weight, Sum.inl (y_weight, 10, Sum.inl f_weight))]) F hK hP hD hS hA (n_size l D z_13 ) ⟨gk_X10_158.1, gk_X10_158.2, Nat.le_of_ble_eq_true rfl, Nat.le_of_ble_eq_true rfl⟩ [] [0, 1, 2, 3] [] ⟨rfl, rfl, rfl, rfl, by decide⟩ rfl xT_move (fun _ _ _ => trivial) rfl hl.1 rfl (Nat.le_of_ble_eq_true rfl) dX10_strain_58 ⟨Nat.le_of_ble_eq_true rfl, Nat.le_of_ble_eq_true rfl⟩ (fun r_14 _ H locs hw hK1 hP hD hS => ?_)
        have hP : va_P D vwCl [(h0, Sum.inr (9, [Value.ref m_tape, Value.int (nI ln), Value.int s_thrown, Value.ref m_rule, Value.ref m_rules, Value.int (nI sn), Value.ref m_stair, Value.int s_readStairs, Value.int s_fault, Value.int s_faultPlace, Value.int (nI w), Value.int (nI h), Value.ref m_low, Value.ref m_high, Value.ref m_crack, Value.int (nI bc), Value.ref m_weight, Value.ref m_fire, Value.ref m_crowd, Value.ref m_state, Value.ref m_where, Value.int s_hours, Value.int s_fees, Value.int s_looks, Value.ref m_words, Value.int s_end, Value.int s_next, Value.int s_kind, Value.int s_which, Value.int s_place, Value.int s_read, Value.ref m_told, Value.ref m_breaks, Value.ref m_row, Value.ref m_tried, Value.ref m_steps, Value.ref m_paths])), (m_state, Sum.inl (y_state, 10, Sum.inl f_state)), (m_where, Sum.inl (y_where, 10, Sum.inl f_where)), (m_weight, Sum.inl (y_weight, 10, Sum.inl f_weight))] H := hP
        have hD : va_D A [(h0, Sum.inr (9, [Value.ref m_tape, Value.int (nI ln), Value.int s_thrown, Value.ref m_rule, Value.ref m_rules, Value.int (nI sn), Value.ref m_stair, Value.int s_readStairs, Value.int s_fault, Value.int s_faultPlace, Value.int (nI w), Value.int (nI h), Value.ref m_low, Value.ref m_high, Value.ref m_crack, Value.int (nI bc), Value.ref m_weight, Value.ref m_fire, Value.ref m_crowd, Value.ref m_state, Value.ref m_where, Value.int s_hours, Value.int s_fees, Value.int s_looks, Value.ref m_words, Value.int s_end, Value.int s_next, Value.int s_kind, Value.int s_which, Value.int s_place, Value.int s_read, Value.ref m_told, Value.ref m_breaks, Value.ref m_row, Value.ref m_tried, Value.ref m_steps, Value.ref m_paths])), (m_state, Sum.inl (y_state, 10, Sum.inl f_state)), (m_where, Sum.inl (y_where, 10, Sum.inl f_where)), (m_weight, Sum.inl (y_weight, 10, Sum.inl f_weight))] := hD
        have hw_15 : r_14 = r_14 := hw
        refine lv_istore (lv' := [(5, Value.int r_14), (4, Value.int r_8), (0, Value.ref h0), (1, Value.int x), (2, Value.int su), (3, Value.int (nI i))]) hx hb dX10_strain_61 hl (by decide) rfl (fun ls hl => ?_)
        refine lv_iload hx hb dX10_strain_63 (lv_at hl 1 rfl) ?_
        refine lv_iconst (v := 1) hx hb dX10_strain_65 (by decide) ?_
        refine lv_icmp_gt (tgt := 114) hx hb dX10_strain_66 (by decide) (fun c_16 => ?_) (fun c_16 => ?_)
        · skip
          refine lv_iinc (v := nI (i + 1)) (lv' := [(3, Value.int (nI (i + 1))), (5, Value.int r_14), (4, Value.int r_8), (0, Value.ref h0), (1, Value.int x), (2, Value.int su)]) hx hb dX10_strain_114 hl (k := 5) rfl (nI_add i 1) (by decide) rfl (fun ls hl => ?_)
          refine lv_goto (tgt := 4) hx hb dX10_strain_117 (by decide) ?_
          exact ih su (i + 1) (by omega) (by omega) (by omega) H locs (hP.sub [0, 1, 2, 3] rfl) (hD.sub [0, 1, 2, 3] (by decide) rfl) hS ls (lv_sub hl [3, 4, 5, 0] rfl)
        · skip
          refine lv_iload hx hb dX10_strain_69 (lv_at hl 0 rfl) ?_
          refine lv_iconst (v := 1) hx hb dX10_strain_71 (by decide) ?_
          refine lv_icmp_le (tgt := 78) hx hb dX10_strain_72 (by decide) (fun c_17 => ?_) (fun c_17 => ?_)
          · skip
            have c_17 := Int32.not_lt.mpr c_17
            refine lv_iload_n hx hb dX10_strain_78 rfl (lv_at hl 4 rfl) ?_
            refine lv_aload_n hx hb dX10_strain_79 rfl (lv_at hl 2 rfl) ?_
            refine va_get (D := D) (ci := 9) (v := Value.ref m_weight) (C := RX10) (T := TX10) (N := 37) hx hb hts inG_X10 hown hK hP 0 rfl rfl 16 (by decide) (hts _ kw_4_211) (fun _ h9 => h9) rfl dX10_strain_80 ?_
            refine lv_iload_n hx hb dX10_strain_83 rfl (lv_at hl 5 rfl) ?_
            refine m_iald hx hb hK hP 3 2 rfl rfl i rfl (by omega) (by decide) dX10_strain_84 ?_
            refine lv_topi (fun v_18 ev_18 => ?_)
            refine lv_iload hx hb dX10_strain_85 (lv_at hl 1 rfl) ?_
            refine lv_iload hx hb dX10_strain_87 (lv_at hl 0 rfl) ?_
            refine lv_iadd hx hb dX10_strain_89 ?_
            refine lv_topi (fun z_19 ez_19 => ?_)
            refine lv_if_ne (tgt := 97) hx hb dX10_strain_90 (by decide) (fun c_20 => ?_) (fun c_20 => ?_)
            · skip
              refine lv_iload hx hb dX10_strain_97 (lv_at hl 1 rfl) ?_
              refine lv_iload hx hb dX10_strain_99 (lv_at hl 0 rfl) ?_
              refine lv_iadd hx hb dX10_strain_101 ?_
              refine lv_topi (fun z_21 ez_21 => ?_)
              refine lv_iconst (v := 1) hx hb dX10_strain_102 (by decide) ?_
              refine lv_icmp_ne (tgt := 110) hx hb dX10_strain_103 (by decide) (fun c_22 => ?_) (fun c_22 => ?_)
              · skip
                refine lv_iconst (v := 1) hx hb dX10_strain_110 (by decide) ?_
                refine lv_imul hx hb dX10_strain_111 ?_
                refine lv_topi (fun z_23 ez_23 => ?_)
                refine lv_iadd hx hb dX10_strain_112 ?_
                refine lv_topi (fun z_24 ez_24 => ?_)
                refine lv_istore_n (lv' := [(2, Value.int z_24), (5, Value.int r_14), (4, Value.int r_8), (0, Value.ref h0), (1, Value.int x), (3, Value.int (nI i))]) hx hb dX10_strain_113 rfl hl (by decide) rfl (fun ls hl => ?_)
                refine lv_iinc (v := nI (i + 1)) (lv' := [(3, Value.int (nI (i + 1))), (2, Value.int z_24), (5, Value.int r_14), (4, Value.int r_8), (0, Value.ref h0), (1, Value.int x)]) hx hb dX10_strain_114 hl (k := 5) rfl (nI_add i 1) (by decide) rfl (fun ls hl => ?_)
                refine lv_goto (tgt := 4) hx hb dX10_strain_117 (by decide) ?_
                exact ih z_24 (i + 1) (by omega) (by omega) (by omega) H locs (hP.sub [0, 1, 2, 3] rfl) (hD.sub [0, 1, 2, 3] (by decide) rfl) hS ls (lv_sub hl [4, 5, 1, 0] rfl)
              · skip
                refine lv_iconst (v := 2) hx hb dX10_strain_106 (by decide) ?_
                refine lv_goto (tgt := 111) hx hb dX10_strain_107 (by decide) ?_
                refine lv_imul hx hb dX10_strain_111 ?_
                refine lv_topi (fun z_25 ez_25 => ?_)
                refine lv_iadd hx hb dX10_strain_112 ?_
                refine lv_topi (fun z_26 ez_26 => ?_)
                refine lv_istore_n (lv' := [(2, Value.int z_26), (5, Value.int r_14), (4, Value.int r_8), (0, Value.ref h0), (1, Value.int x), (3, Value.int (nI i))]) hx hb dX10_strain_113 rfl hl (by decide) rfl (fun ls hl => ?_)
                refine lv_iinc (v := nI (i + 1)) (lv' := [(3, Value.int (nI (i + 1))), (2, Value.int z_26), (5, Value.int r_14), (4, Value.int r_8), (0, Value.ref h0), (1, Value.int x)]) hx hb dX10_strain_114 hl (k := 5) rfl (nI_add i 1) (by decide) rfl (fun ls hl => ?_)
                refine lv_goto (tgt := 4) hx hb dX10_strain_117 (by decide) ?_
                exact ih z_26 (i + 1) (by omega) (by omega) (by omega) H locs (hP.sub [0, 1, 2, 3] rfl) (hD.sub [0, 1, 2, 3] (by decide) rfl) hS ls (lv_sub hl [4, 5, 1, 0] rfl)
            · skip
              refine lv_iconst (v := 4) hx hb dX10_strain_93 (by decide) ?_
              refine lv_goto (tgt := 111) hx hb dX10_strain_94 (by decide) ?_
              refine lv_imul hx hb dX10_strain_111 ?_
              refine lv_topi (fun z_27 ez_27 => ?_)
              refine lv_iadd hx hb dX10_strain_112 ?_
              refine lv_topi (fun z_28 ez_28 => ?_)
              refine lv_istore_n (lv' := [(2, Value.int z_28), (5, Value.int r_14), (4, Value.int r_8), (0, Value.ref h0), (1, Value.int x), (3, Value.int (nI i))]) hx hb dX10_strain_113 rfl hl (by decide) rfl (fun ls hl => ?_)
              refine lv_iinc (v := nI (i + 1)) (lv' := [(3, Value.int (nI (i + 1))), (2, Value.int z_28), (5, Value.int r_14), (4, Value.int r_8), (0, Value.ref h0), (1, Value.int x)]) hx hb dX10_strain_114 hl (k := 5) rfl (nI_add i 1) (by decide) rfl (fun ls hl => ?_)
              refine lv_goto (tgt := 4) hx hb dX10_strain_117 (by decide) ?_
              exact ih z_28 (i + 1) (by omega) (by omega) (by omega) H locs (hP.sub [0, 1, 2, 3] rfl) (hD.sub [0, 1, 2, 3] (by decide) rfl) hS ls (lv_sub hl [4, 5, 1, 0] rfl)
          · skip
            have c_17 := Int32.not_le.mp c_17
            refine lv_goto (tgt := 114) hx hb dX10_strain_75 (by decide) ?_
            refine lv_iinc (v := nI (i + 1)) (lv' := [(3, Value.int (nI (i + 1))), (5, Value.int r_14), (4, Value.int r_8), (0, Value.ref h0), (1, Value.int x), (2, Value.int su)]) hx hb dX10_strain_114 hl (k := 5) rfl (nI_add i 1) (by decide) rfl (fun ls hl => ?_)
            refine lv_goto (tgt := 4) hx hb dX10_strain_117 (by decide) ?_
            exact ih su (i + 1) (by omega) (by omega) (by omega) H locs (hP.sub [0, 1, 2, 3] rfl) (hD.sub [0, 1, 2, 3] (by decide) rfl) hS ls (lv_sub hl [3, 4, 5, 0] rfl)
      · skip
        refine lv_goto (tgt := 114) hx hb dX10_strain_22 (by decide) ?_
        refine lv_iinc (v := nI (i + 1)) (lv' := [(3, Value.int (nI (i + 1))), (0, Value.ref h0), (1, Value.int x), (2, Value.int su)]) hx hb dX10_strain_114 hl (k := 3) rfl (nI_add i 1) (by decide) rfl (fun ls hl => ?_)
        refine lv_goto (tgt := 4) hx hb dX10_strain_117 (by decide) ?_
        exact ih su (i + 1) (by omega) (by omega) (by omega) H locs (hP.sub [0, 1, 2, 3] rfl) (hD.sub [0, 1, 2, 3] (by decide) rfl) hS ls (lv_sub hl [1, 2, 3, 0] rfl)
set_option maxHeartbeats 4000000 in
set_option maxRecDepth 100000 in
theorem n_strain (l : Launch) (D : va_G) (h0 : Nat) (m_tape : Nat) (ln : Nat) (s_thrown : Int32) (m_rule : Nat) (m_rules : Nat) (sn : Nat) (m_stair : Nat) (s_readStairs : Int32) (s_fault : Int32) (s_faultPlace : Int32) (w : Nat) (h : Nat) (m_low : Nat) (m_high : Nat) (m_crack : Nat) (bc : Nat) (m_weight : Nat) (m_fire : Nat) (m_crowd : Nat) (m_state : Nat) (m_where : Nat) (s_hours : Int32) (s_fees : Int32) (s_looks : Int32) (m_words : Nat) (s_end : Int32) (s_next : Int32) (s_kind : Int32) (s_which : Int32) (s_place : Int32) (s_read : Int32) (m_told : Nat) (m_breaks : Nat) (m_row : Nat) (m_tried : Nat) (m_steps : Nat) (m_paths : Nat) (y_state : ClassId) (f_state : Nat → Int32) (y_where : ClassId) (f_where : Nat → Int32) (y_weight : ClassId) (f_weight : Nat → Int32) (x : Int32) (hbc : bc ≤ 10) : cI l yX10_strain (.code yX10_strain cX10_strain 6 (some .int)) ({ frames := 1, cells := 0, slots := 0, locals := 20 }) D [(y_state, .int), (y_where, .int), (y_weight, .int)] [(h0, Sum.inr (9, [Value.ref m_tape, Value.int (nI ln), Value.int s_thrown, Value.ref m_rule, Value.ref m_rules, Value.int (nI sn), Value.ref m_stair, Value.int s_readStairs, Value.int s_fault, Value.int s_faultPlace, Value.int (nI w), Value.int (nI h), Value.ref m_low, Value.ref m_high, Value.ref m_crack, Value.int (nI bc), Value.ref m_weight, Value.ref m_fire, Value.ref m_crowd, Value.ref m_state, Value.ref m_where, Value.int s_hours, Value.int s_fees, Value.int s_looks, Value.ref m_words, Value.int s_end, Value.int s_next, Value.int s_kind, Value.int s_which, Value.int s_place, Value.int s_read, Value.ref m_told, Value.ref m_breaks, Value.ref m_row, Value.ref m_tried, Value.ref m_steps, Value.ref m_paths])), (m_state, Sum.inl (y_state, 10, Sum.inl f_state)), (m_where, Sum.inl (y_where, 10, Sum.inl f_where)), (m_weight, Sum.inl (y_weight, 10, Sum.inl f_weight))] xT [Value.ref h0, Value.int x] (S := Unit) (fun r _ => r = r) (fun _ => []) (fun _ => [(h0, Sum.inr (9, [Value.ref m_tape, Value.int (nI ln), Value.int s_thrown, Value.ref m_rule, Value.ref m_rules, Value.int (nI sn), Value.ref m_stair, Value.int s_readStairs, Value.int s_fault, Value.int s_faultPlace, Value.int (nI w), Value.int (nI h), Value.ref m_low, Value.ref m_high, Value.ref m_crack, Value.int (nI bc), Value.ref m_weight, Value.ref m_fire, Value.ref m_crowd, Value.ref m_state, Value.ref m_where, Value.int s_hours, Value.int s_fees, Value.int s_looks, Value.ref m_words, Value.int s_end, Value.int s_next, Value.int s_kind, Value.int s_which, Value.int s_place, Value.int s_read, Value.ref m_told, Value.ref m_breaks, Value.ref m_row, Value.ref m_tried, Value.ref m_steps, Value.ref m_paths])), (m_state, Sum.inl (y_state, 10, Sum.inl f_state)), (m_where, Sum.inl (y_where, 10, Sum.inl f_where)), (m_weight, Sum.inl (y_weight, 10, Sum.inl f_weight))]) := by
  intro sz
  refine Met.ofW (cc := cX10_strain) (maxL := 6) (ret := (some .int)) (by decide) rfl ?_
  intro p e s m args below meth c s₁ B hml hv
  obtain ⟨rfl, hsz, hP, hK, hD0, hX⟩ := hv
  have hx := B.exec
  have hb := B.bytes
  have hr := B.returns
  have hts0 := atoms_spec (ws := .code yX10_strain cX10_strain 6 (some .int) :: gw) B.pre
  have hts := fun (w : Cond) (h : w ∈ gw) => hts0 w (List.mem_cons_of_mem _ h)
  have hown : s.vm.findClass RX10 = some m.cls := findClass_of_methodNamed B.named
  have hlocks := B.notSynchronized
  have F : mFix p s m _ c cX10_strain 6 RX10 := ⟨hx, hb, hml, hown, hts⟩
  subst hsz
  have hD := hD0.self (sz := s.heap.size)
  generalize hAe : va_A [(h0, Sum.inr (9, [Value.ref m_tape, Value.int (nI ln), Value.int s_thrown, Value.ref m_rule, Value.ref m_rules, Value.int (nI sn), Value.ref m_stair, Value.int s_readStairs, Value.int s_fault, Value.int s_faultPlace, Value.int (nI w), Value.int (nI h), Value.ref m_low, Value.ref m_high, Value.ref m_crack, Value.int (nI bc), Value.ref m_weight, Value.ref m_fire, Value.ref m_crowd, Value.ref m_state, Value.ref m_where, Value.int s_hours, Value.int s_fees, Value.int s_looks, Value.ref m_words, Value.int s_end, Value.int s_next, Value.int s_kind, Value.int s_which, Value.int s_place, Value.int s_read, Value.ref m_told, Value.ref m_breaks, Value.ref m_row, Value.ref m_tried, Value.ref m_steps, Value.ref m_paths])), (m_state, Sum.inl (y_state, 10, Sum.inl f_state)), (m_where, Sum.inl (y_where, 10, Sum.inl f_where)), (m_weight, Sum.inl (y_weight, 10, Sum.inl f_weight))] s.heap.size = A at hD hX ⊢
  have hA : ∀ q : Nat, s.heap.size ≤ q → A q := fun q h => by rw [← hAe]; exact Or.inr h
  have hS : va_S A s.heap s.heap [] := va_S.rf
  have hl := lv_entry ([Value.ref h0, Value.int x]) (n := 6) (Nat.le_of_ble_eq_true rfl)
  rw [lg_entry_eq]
  generalize (lg_sl ([Value.ref h0, Value.int x]) ++ List.replicate (6 - (lg_sl ([Value.ref h0, Value.int x])).length) Slot.unset).toArray = ls at hl ⊢
  have hl : lv_has ls 6 [(0, Value.ref h0), (1, Value.int x)] := hl
  have hP : va_P D vwCl [(h0, Sum.inr (9, [Value.ref m_tape, Value.int (nI ln), Value.int s_thrown, Value.ref m_rule, Value.ref m_rules, Value.int (nI sn), Value.ref m_stair, Value.int s_readStairs, Value.int s_fault, Value.int s_faultPlace, Value.int (nI w), Value.int (nI h), Value.ref m_low, Value.ref m_high, Value.ref m_crack, Value.int (nI bc), Value.ref m_weight, Value.ref m_fire, Value.ref m_crowd, Value.ref m_state, Value.ref m_where, Value.int s_hours, Value.int s_fees, Value.int s_looks, Value.ref m_words, Value.int s_end, Value.int s_next, Value.int s_kind, Value.int s_which, Value.int s_place, Value.int s_read, Value.ref m_told, Value.ref m_breaks, Value.ref m_row, Value.ref m_tried, Value.ref m_steps, Value.ref m_paths])), (m_state, Sum.inl (y_state, 10, Sum.inl f_state)), (m_where, Sum.inl (y_where, 10, Sum.inl f_where)), (m_weight, Sum.inl (y_weight, 10, Sum.inl f_weight))] s.heap := hP
  refine lv_iconst (v := 0) hx hb dX10_strain_0 (by decide) ?_
  refine lv_istore_n (lv' := [(2, Value.int 0), (0, Value.ref h0), (1, Value.int x)]) hx hb dX10_strain_1 rfl hl (by decide) rfl (fun ls hl => ?_)
  refine lv_iconst (v := 0) hx hb dX10_strain_2 (by decide) ?_
  refine lv_istore_n (lv' := [(3, Value.int 0), (2, Value.int 0), (0, Value.ref h0), (1, Value.int x)]) hx hb dX10_strain_3 rfl hl (by decide) rfl (fun ls hl => ?_)
  refine lp_n_strain F hA h0 m_tape ln s_thrown m_rule m_rules sn m_stair s_readStairs s_fault s_faultPlace w h m_low m_high m_crack bc m_weight m_fire m_crowd m_state m_where s_hours s_fees s_looks m_words s_end s_next s_kind s_which s_place s_read m_told m_breaks m_row m_tried m_steps m_paths y_state f_state y_where f_where y_weight f_weight x (hK.sub [0, 1, 2] rfl) (fun su_1  H locs hP hD hS ls hl => ?_) _ 0 0 (by omega) (by omega) (Nat.lt_succ_self _) _ _ (hP.sub [0, 1, 2, 3] rfl) (hD.sub [0, 1, 2, 3] (by decide) rfl) hS ls (lv_sub hl [2, 3, 1, 0] rfl)
  refine lv_iload_n hx hb dX10_strain_120 rfl (lv_at hl 0 rfl) ?_
  have hP9 := hP.sub (ws' := [(h0, Sum.inr (9, [Value.ref m_tape, Value.int (nI ln), Value.int s_thrown, Value.ref m_rule, Value.ref m_rules, Value.int (nI sn), Value.ref m_stair, Value.int s_readStairs, Value.int s_fault, Value.int s_faultPlace, Value.int (nI w), Value.int (nI h), Value.ref m_low, Value.ref m_high, Value.ref m_crack, Value.int (nI bc), Value.ref m_weight, Value.ref m_fire, Value.ref m_crowd, Value.ref m_state, Value.ref m_where, Value.int s_hours, Value.int s_fees, Value.int s_looks, Value.ref m_words, Value.int s_end, Value.int s_next, Value.int s_kind, Value.int s_which, Value.int s_place, Value.int s_read, Value.ref m_told, Value.ref m_breaks, Value.ref m_row, Value.ref m_tried, Value.ref m_steps, Value.ref m_paths])), (m_state, Sum.inl (y_state, 10, Sum.inl f_state)), (m_where, Sum.inl (y_where, 10, Sum.inl f_where)), (m_weight, Sum.inl (y_weight, 10, Sum.inl f_weight))]) [0, 1, 2, 3] rfl
  have hD9 := hD.sub (ws' := [(h0, Sum.inr (9, [Value.ref m_tape, Value.int (nI ln), Value.int s_thrown, Value.ref m_rule, Value.ref m_rules, Value.int (nI sn), Value.ref m_stair, Value.int s_readStairs, Value.int s_fault, Value.int s_faultPlace, Value.int (nI w), Value.int (nI h), Value.ref m_low, Value.ref m_high, Value.ref m_crack, Value.int (nI bc), Value.ref m_weight, Value.ref m_fire, Value.ref m_crowd, Value.ref m_state, Value.ref m_where, Value.int s_hours, Value.int s_fees, Value.int s_looks, Value.ref m_words, Value.int s_end, Value.int s_next, Value.int s_kind, Value.int s_which, Value.int s_place, Value.int s_read, Value.ref m_told, Value.ref m_breaks, Value.ref m_row, Value.ref m_tried, Value.ref m_steps, Value.ref m_paths])), (m_state, Sum.inl (y_state, 10, Sum.inl f_state)), (m_where, Sum.inl (y_where, 10, Sum.inl f_where)), (m_weight, Sum.inl (y_weight, 10, Sum.inl f_weight))]) [0, 1, 2, 3] (by decide) rfl
  have hK9 := hK.sub (tys' := []) [] rfl
  refine W.widen (k := 0) (n := 0) (by decide) (by decide) ?_
  exact W.iret (v := su_1) hx hb hr (fun t ht hW => ⟨⟨su_1, (), rfl, rfl, by rw [ht]; exact hP9, va_K.moved hW.alike hK9, hD9⟩, hS.F ht⟩) hS.2.2 dX10_strain_121
set_option maxHeartbeats 4000000 in
set_option maxRecDepth 100000 in
theorem n_bears (l : Launch) (D : va_G) (h0 : Nat) (m_tape : Nat) (ln : Nat) (s_thrown : Int32) (m_rule : Nat) (m_rules : Nat) (sn : Nat) (m_stair : Nat) (s_readStairs : Int32) (s_fault : Int32) (s_faultPlace : Int32) (w : Nat) (h : Nat) (m_low : Nat) (m_high : Nat) (m_crack : Nat) (bc : Nat) (m_weight : Nat) (m_fire : Nat) (m_crowd : Nat) (m_state : Nat) (m_where : Nat) (s_hours : Int32) (s_fees : Int32) (s_looks : Int32) (m_words : Nat) (s_end : Int32) (s_next : Int32) (s_kind : Int32) (s_which : Int32) (s_place : Int32) (s_read : Int32) (m_told : Nat) (m_breaks : Nat) (m_row : Nat) (m_tried : Nat) (m_steps : Nat) (m_paths : Nat) (y_low : ClassId) (f_low : Nat → Int32) (y_rule : ClassId) (f_rule : Nat → Int32) (j : Nat) (hj : j < 100) : cI l yX10_bears (.code yX10_bears cX10_bears 2 (some .int)) ({ frames := 0, cells := 0, slots := 0, locals := 0 }) D [(y_low, .int), (y_rule, .int)] [(h0, Sum.inr (9, [Value.ref m_tape, Value.int (nI ln), Value.int s_thrown, Value.ref m_rule, Value.ref m_rules, Value.int (nI sn), Value.ref m_stair, Value.int s_readStairs, Value.int s_fault, Value.int s_faultPlace, Value.int (nI w), Value.int (nI h), Value.ref m_low, Value.ref m_high, Value.ref m_crack, Value.int (nI bc), Value.ref m_weight, Value.ref m_fire, Value.ref m_crowd, Value.ref m_state, Value.ref m_where, Value.int s_hours, Value.int s_fees, Value.int s_looks, Value.ref m_words, Value.int s_end, Value.int s_next, Value.int s_kind, Value.int s_which, Value.int s_place, Value.int s_read, Value.ref m_told, Value.ref m_breaks, Value.ref m_row, Value.ref m_tried, Value.ref m_steps, Value.ref m_paths])), (m_low, Sum.inl (y_low, 100, Sum.inl f_low)), (m_rule, Sum.inl (y_rule, 8, Sum.inl f_rule))] xT [Value.ref h0, Value.int (nI j)] (S := Unit) (fun r _ => r = r) (fun _ => []) (fun _ => [(h0, Sum.inr (9, [Value.ref m_tape, Value.int (nI ln), Value.int s_thrown, Value.ref m_rule, Value.ref m_rules, Value.int (nI sn), Value.ref m_stair, Value.int s_readStairs, Value.int s_fault, Value.int s_faultPlace, Value.int (nI w), Value.int (nI h), Value.ref m_low, Value.ref m_high, Value.ref m_crack, Value.int (nI bc), Value.ref m_weight, Value.ref m_fire, Value.ref m_crowd, Value.ref m_state, Value.ref m_where, Value.int s_hours, Value.int s_fees, Value.int s_looks, Value.ref m_words, Value.int s_end, Value.int s_next, Value.int s_kind, Value.int s_which, Value.int s_place, Value.int s_read, Value.ref m_told, Value.ref m_breaks, Value.ref m_row, Value.ref m_tried, Value.ref m_steps, Value.ref m_paths])), (m_low, Sum.inl (y_low, 100, Sum.inl f_low)), (m_rule, Sum.inl (y_rule, 8, Sum.inl f_rule))]) := by
  intro sz
  refine Met.ofW (cc := cX10_bears) (maxL := 2) (ret := (some .int)) (by decide) rfl ?_
  intro p e s m args below meth c s₁ B hml hv
  obtain ⟨rfl, hsz, hP, hK, hD0, hX⟩ := hv
  have hx := B.exec
  have hb := B.bytes
  have hr := B.returns
  have hts0 := atoms_spec (ws := .code yX10_bears cX10_bears 2 (some .int) :: gw) B.pre
  have hts := fun (w : Cond) (h : w ∈ gw) => hts0 w (List.mem_cons_of_mem _ h)
  have hown : s.vm.findClass RX10 = some m.cls := findClass_of_methodNamed B.named
  have hlocks := B.notSynchronized
  have F : mFix p s m _ c cX10_bears 2 RX10 := ⟨hx, hb, hml, hown, hts⟩
  subst hsz
  have hD := hD0.self (sz := s.heap.size)
  generalize hAe : va_A [(h0, Sum.inr (9, [Value.ref m_tape, Value.int (nI ln), Value.int s_thrown, Value.ref m_rule, Value.ref m_rules, Value.int (nI sn), Value.ref m_stair, Value.int s_readStairs, Value.int s_fault, Value.int s_faultPlace, Value.int (nI w), Value.int (nI h), Value.ref m_low, Value.ref m_high, Value.ref m_crack, Value.int (nI bc), Value.ref m_weight, Value.ref m_fire, Value.ref m_crowd, Value.ref m_state, Value.ref m_where, Value.int s_hours, Value.int s_fees, Value.int s_looks, Value.ref m_words, Value.int s_end, Value.int s_next, Value.int s_kind, Value.int s_which, Value.int s_place, Value.int s_read, Value.ref m_told, Value.ref m_breaks, Value.ref m_row, Value.ref m_tried, Value.ref m_steps, Value.ref m_paths])), (m_low, Sum.inl (y_low, 100, Sum.inl f_low)), (m_rule, Sum.inl (y_rule, 8, Sum.inl f_rule))] s.heap.size = A at hD hX ⊢
  have hA : ∀ q : Nat, s.heap.size ≤ q → A q := fun q h => by rw [← hAe]; exact Or.inr h
  have hS : va_S A s.heap s.heap [] := va_S.rf
  have hl := lv_entry ([Value.ref h0, Value.int (nI j)]) (n := 2) (Nat.le_of_ble_eq_true rfl)
  rw [lg_entry_eq]
  generalize (lg_sl ([Value.ref h0, Value.int (nI j)]) ++ List.replicate (2 - (lg_sl ([Value.ref h0, Value.int (nI j)])).length) Slot.unset).toArray = ls at hl ⊢
  have hl : lv_has ls 2 [(0, Value.ref h0), (1, Value.int (nI j))] := hl
  have hP : va_P D vwCl [(h0, Sum.inr (9, [Value.ref m_tape, Value.int (nI ln), Value.int s_thrown, Value.ref m_rule, Value.ref m_rules, Value.int (nI sn), Value.ref m_stair, Value.int s_readStairs, Value.int s_fault, Value.int s_faultPlace, Value.int (nI w), Value.int (nI h), Value.ref m_low, Value.ref m_high, Value.ref m_crack, Value.int (nI bc), Value.ref m_weight, Value.ref m_fire, Value.ref m_crowd, Value.ref m_state, Value.ref m_where, Value.int s_hours, Value.int s_fees, Value.int s_looks, Value.ref m_words, Value.int s_end, Value.int s_next, Value.int s_kind, Value.int s_which, Value.int s_place, Value.int s_read, Value.ref m_told, Value.ref m_breaks, Value.ref m_row, Value.ref m_tried, Value.ref m_steps, Value.ref m_paths])), (m_low, Sum.inl (y_low, 100, Sum.inl f_low)), (m_rule, Sum.inl (y_rule, 8, Sum.inl f_rule))] s.heap := hP
  refine lv_aload_n hx hb dX10_bears_0 rfl (lv_at hl 0 rfl) ?_
  refine va_get (D := D) (ci := 9) (v := Value.ref m_low) (C := RX10) (T := TX10) (N := 37) hx hb hts inG_X10 hown hK hP 0 rfl rfl 12 (by decide) (hts _ kw_4_207) (fun _ h9 => h9) rfl dX10_bears_1 ?_
  refine lv_iload_n hx hb dX10_bears_4 rfl (lv_at hl 1 rfl) ?_
  refine m_iald hx hb hK hP 1 0 rfl rfl j rfl (by omega) (by decide) dX10_bears_5 ?_
  refine lv_topi (fun v_1 ev_1 => ?_)
  refine lv_aload_n hx hb dX10_bears_6 rfl (lv_at hl 0 rfl) ?_
  refine va_get (D := D) (ci := 9) (v := Value.ref m_low) (C := RX10) (T := TX10) (N := 37) hx hb hts inG_X10 hown hK hP 0 rfl rfl 12 (by decide) (hts _ kw_4_207) (fun _ h9 => h9) rfl dX10_bears_7 ?_
  refine lv_iload_n hx hb dX10_bears_10 rfl (lv_at hl 1 rfl) ?_
  refine m_iald hx hb hK hP 1 0 rfl rfl j rfl (by omega) (by decide) dX10_bears_11 ?_
  refine lv_topi (fun v_2 ev_2 => ?_)
  refine lv_imul hx hb dX10_bears_12 ?_
  refine lv_topi (fun z_3 ez_3 => ?_)
  refine lv_aload_n hx hb dX10_bears_13 rfl (lv_at hl 0 rfl) ?_
  refine va_get (D := D) (ci := 9) (v := Value.ref m_rule) (C := RX10) (T := TX10) (N := 37) hx hb hts inG_X10 hown hK hP 0 rfl rfl 3 (by decide) (hts _ kw_4_198) (fun _ h9 => h9) rfl dX10_bears_14 ?_
  refine lv_iconst (v := 0) hx hb dX10_bears_17 (by decide) ?_
  refine m_iald hx hb hK hP 2 1 rfl rfl 0 rfl (by decide) (by decide) dX10_bears_18 ?_
  refine lv_topi (fun v_4 ev_4 => ?_)
  refine lv_imul hx hb dX10_bears_19 ?_
  refine lv_topi (fun z_5 ez_5 => ?_)
  refine lv_bipush (v := 100) hx hb dX10_bears_20 (by decide) ?_
  refine lv_idiv hx hb dX10_bears_22 (by decide) ?_
  refine lv_topi (fun z_6 ez_6 => ?_)
  have hP9 := hP.sub (ws' := [(h0, Sum.inr (9, [Value.ref m_tape, Value.int (nI ln), Value.int s_thrown, Value.ref m_rule, Value.ref m_rules, Value.int (nI sn), Value.ref m_stair, Value.int s_readStairs, Value.int s_fault, Value.int s_faultPlace, Value.int (nI w), Value.int (nI h), Value.ref m_low, Value.ref m_high, Value.ref m_crack, Value.int (nI bc), Value.ref m_weight, Value.ref m_fire, Value.ref m_crowd, Value.ref m_state, Value.ref m_where, Value.int s_hours, Value.int s_fees, Value.int s_looks, Value.ref m_words, Value.int s_end, Value.int s_next, Value.int s_kind, Value.int s_which, Value.int s_place, Value.int s_read, Value.ref m_told, Value.ref m_breaks, Value.ref m_row, Value.ref m_tried, Value.ref m_steps, Value.ref m_paths])), (m_low, Sum.inl (y_low, 100, Sum.inl f_low)), (m_rule, Sum.inl (y_rule, 8, Sum.inl f_rule))]) [0, 1, 2] rfl
  have hD9 := hD.sub (ws' := [(h0, Sum.inr (9, [Value.ref m_tape, Value.int (nI ln), Value.int s_thrown, Value.ref m_rule, Value.ref m_rules, Value.int (nI sn), Value.ref m_stair, Value.int s_readStairs, Value.int s_fault, Value.int s_faultPlace, Value.int (nI w), Value.int (nI h), Value.ref m_low, Value.ref m_high, Value.ref m_crack, Value.int (nI bc), Value.ref m_weight, Value.ref m_fire, Value.ref m_crowd, Value.ref m_state, Value.ref m_where, Value.int s_hours, Value.int s_fees, Value.int s_looks, Value.ref m_words, Value.int s_end, Value.int s_next, Value.int s_kind, Value.int s_which, Value.int s_place, Value.int s_read, Value.ref m_told, Value.ref m_breaks, Value.ref m_row, Value.ref m_tried, Value.ref m_steps, Value.ref m_paths])), (m_low, Sum.inl (y_low, 100, Sum.inl f_low)), (m_rule, Sum.inl (y_rule, 8, Sum.inl f_rule))]) [0, 1, 2] (by decide) rfl
  have hK9 := hK.sub (tys' := []) [] rfl
  refine W.widen (k := 0) (n := 0) (by decide) (by decide) ?_
  exact W.iret (v := z_6) hx hb hr (fun t ht hW => ⟨⟨z_6, (), rfl, rfl, by rw [ht]; exact hP9, va_K.moved hW.alike hK9, hD9⟩, hS.F ht⟩) hS.2.2 dX10_bears_23
set_option maxHeartbeats 4000000 in
set_option maxRecDepth 100000 in
theorem n_isOpen (l : Launch) (D : va_G) (h0 : Nat) (m_tape : Nat) (ln : Nat) (s_thrown : Int32) (m_rule : Nat) (m_rules : Nat) (sn : Nat) (m_stair : Nat) (s_readStairs : Int32) (s_fault : Int32) (s_faultPlace : Int32) (w : Nat) (h : Nat) (m_low : Nat) (m_high : Nat) (m_crack : Nat) (bc : Nat) (m_weight : Nat) (m_fire : Nat) (m_crowd : Nat) (m_state : Nat) (m_where : Nat) (s_hours : Int32) (s_fees : Int32) (s_looks : Int32) (m_words : Nat) (s_end : Int32) (s_next : Int32) (s_kind : Int32) (s_which : Int32) (s_place : Int32) (s_read : Int32) (m_told : Nat) (m_breaks : Nat) (m_row : Nat) (m_tried : Nat) (m_steps : Nat) (m_paths : Nat) (y_low : ClassId) (f_low : Nat → Int32) (y_crack : ClassId) (f_crack : Nat → Int32) (j : Nat) (hj : j < 100) : cI l yX10_isOpen (.code yX10_isOpen cX10_isOpen 2 (some .boolean)) ({ frames := 0, cells := 0, slots := 0, locals := 0 }) D [(y_low, .int), (y_crack, .boolean)] [(h0, Sum.inr (9, [Value.ref m_tape, Value.int (nI ln), Value.int s_thrown, Value.ref m_rule, Value.ref m_rules, Value.int (nI sn), Value.ref m_stair, Value.int s_readStairs, Value.int s_fault, Value.int s_faultPlace, Value.int (nI w), Value.int (nI h), Value.ref m_low, Value.ref m_high, Value.ref m_crack, Value.int (nI bc), Value.ref m_weight, Value.ref m_fire, Value.ref m_crowd, Value.ref m_state, Value.ref m_where, Value.int s_hours, Value.int s_fees, Value.int s_looks, Value.ref m_words, Value.int s_end, Value.int s_next, Value.int s_kind, Value.int s_which, Value.int s_place, Value.int s_read, Value.ref m_told, Value.ref m_breaks, Value.ref m_row, Value.ref m_tried, Value.ref m_steps, Value.ref m_paths])), (m_low, Sum.inl (y_low, 100, Sum.inl f_low)), (m_crack, Sum.inl (y_crack, 100, Sum.inl f_crack))] xT [Value.ref h0, Value.int (nI j)] (S := Unit) (fun r _ => r = 0 ∨ r = 1) (fun _ => []) (fun _ => [(h0, Sum.inr (9, [Value.ref m_tape, Value.int (nI ln), Value.int s_thrown, Value.ref m_rule, Value.ref m_rules, Value.int (nI sn), Value.ref m_stair, Value.int s_readStairs, Value.int s_fault, Value.int s_faultPlace, Value.int (nI w), Value.int (nI h), Value.ref m_low, Value.ref m_high, Value.ref m_crack, Value.int (nI bc), Value.ref m_weight, Value.ref m_fire, Value.ref m_crowd, Value.ref m_state, Value.ref m_where, Value.int s_hours, Value.int s_fees, Value.int s_looks, Value.ref m_words, Value.int s_end, Value.int s_next, Value.int s_kind, Value.int s_which, Value.int s_place, Value.int s_read, Value.ref m_told, Value.ref m_breaks, Value.ref m_row, Value.ref m_tried, Value.ref m_steps, Value.ref m_paths])), (m_low, Sum.inl (y_low, 100, Sum.inl f_low)), (m_crack, Sum.inl (y_crack, 100, Sum.inl f_crack))]) := by
  intro sz
  refine Met.ofW (cc := cX10_isOpen) (maxL := 2) (ret := (some .boolean)) (by decide) rfl ?_
  intro p e s m args below meth c s₁ B hml hv
  obtain ⟨rfl, hsz, hP, hK, hD0, hX⟩ := hv
  have hx := B.exec
  have hb := B.bytes
  have hr := B.returns
  have hts0 := atoms_spec (ws := .code yX10_isOpen cX10_isOpen 2 (some .boolean) :: gw) B.pre
  have hts := fun (w : Cond) (h : w ∈ gw) => hts0 w (List.mem_cons_of_mem _ h)
  have hown : s.vm.findClass RX10 = some m.cls := findClass_of_methodNamed B.named
  have hlocks := B.notSynchronized
  have F : mFix p s m _ c cX10_isOpen 2 RX10 := ⟨hx, hb, hml, hown, hts⟩
  subst hsz
  have hD := hD0.self (sz := s.heap.size)
  generalize hAe : va_A [(h0, Sum.inr (9, [Value.ref m_tape, Value.int (nI ln), Value.int s_thrown, Value.ref m_rule, Value.ref m_rules, Value.int (nI sn), Value.ref m_stair, Value.int s_readStairs, Value.int s_fault, Value.int s_faultPlace, Value.int (nI w), Value.int (nI h), Value.ref m_low, Value.ref m_high, Value.ref m_crack, Value.int (nI bc), Value.ref m_weight, Value.ref m_fire, Value.ref m_crowd, Value.ref m_state, Value.ref m_where, Value.int s_hours, Value.int s_fees, Value.int s_looks, Value.ref m_words, Value.int s_end, Value.int s_next, Value.int s_kind, Value.int s_which, Value.int s_place, Value.int s_read, Value.ref m_told, Value.ref m_breaks, Value.ref m_row, Value.ref m_tried, Value.ref m_steps, Value.ref m_paths])), (m_low, Sum.inl (y_low, 100, Sum.inl f_low)), (m_crack, Sum.inl (y_crack, 100, Sum.inl f_crack))] s.heap.size = A at hD hX ⊢
  have hA : ∀ q : Nat, s.heap.size ≤ q → A q := fun q h => by rw [← hAe]; exact Or.inr h
  have hS : va_S A s.heap s.heap [] := va_S.rf
  have hl := lv_entry ([Value.ref h0, Value.int (nI j)]) (n := 2) (Nat.le_of_ble_eq_true rfl)
  rw [lg_entry_eq]
  generalize (lg_sl ([Value.ref h0, Value.int (nI j)]) ++ List.replicate (2 - (lg_sl ([Value.ref h0, Value.int (nI j)])).length) Slot.unset).toArray = ls at hl ⊢
  have hl : lv_has ls 2 [(0, Value.ref h0), (1, Value.int (nI j))] := hl
  have hP : va_P D vwCl [(h0, Sum.inr (9, [Value.ref m_tape, Value.int (nI ln), Value.int s_thrown, Value.ref m_rule, Value.ref m_rules, Value.int (nI sn), Value.ref m_stair, Value.int s_readStairs, Value.int s_fault, Value.int s_faultPlace, Value.int (nI w), Value.int (nI h), Value.ref m_low, Value.ref m_high, Value.ref m_crack, Value.int (nI bc), Value.ref m_weight, Value.ref m_fire, Value.ref m_crowd, Value.ref m_state, Value.ref m_where, Value.int s_hours, Value.int s_fees, Value.int s_looks, Value.ref m_words, Value.int s_end, Value.int s_next, Value.int s_kind, Value.int s_which, Value.int s_place, Value.int s_read, Value.ref m_told, Value.ref m_breaks, Value.ref m_row, Value.ref m_tried, Value.ref m_steps, Value.ref m_paths])), (m_low, Sum.inl (y_low, 100, Sum.inl f_low)), (m_crack, Sum.inl (y_crack, 100, Sum.inl f_crack))] s.heap := hP
  refine lv_aload_n hx hb dX10_isOpen_0 rfl (lv_at hl 0 rfl) ?_
  refine va_get (D := D) (ci := 9) (v := Value.ref m_low) (C := RX10) (T := TX10) (N := 37) hx hb hts inG_X10 hown hK hP 0 rfl rfl 12 (by decide) (hts _ kw_4_207) (fun _ h9 => h9) rfl dX10_isOpen_1 ?_
  refine lv_iload_n hx hb dX10_isOpen_4 rfl (lv_at hl 1 rfl) ?_
  refine m_iald hx hb hK hP 1 0 rfl rfl j rfl (by omega) (by decide) dX10_isOpen_5 ?_
  refine lv_topi (fun v_1 ev_1 => ?_)
  refine lv_if_le (tgt := 22) hx hb dX10_isOpen_6 (by decide) (fun c_2 => ?_) (fun c_2 => ?_)
  · skip
    have c_2 := Int32.not_lt.mpr c_2
    refine lv_iconst (v := 0) hx hb dX10_isOpen_22 (by decide) ?_
    have hP9 := hP.sub (ws' := [(h0, Sum.inr (9, [Value.ref m_tape, Value.int (nI ln), Value.int s_thrown, Value.ref m_rule, Value.ref m_rules, Value.int (nI sn), Value.ref m_stair, Value.int s_readStairs, Value.int s_fault, Value.int s_faultPlace, Value.int (nI w), Value.int (nI h), Value.ref m_low, Value.ref m_high, Value.ref m_crack, Value.int (nI bc), Value.ref m_weight, Value.ref m_fire, Value.ref m_crowd, Value.ref m_state, Value.ref m_where, Value.int s_hours, Value.int s_fees, Value.int s_looks, Value.ref m_words, Value.int s_end, Value.int s_next, Value.int s_kind, Value.int s_which, Value.int s_place, Value.int s_read, Value.ref m_told, Value.ref m_breaks, Value.ref m_row, Value.ref m_tried, Value.ref m_steps, Value.ref m_paths])), (m_low, Sum.inl (y_low, 100, Sum.inl f_low)), (m_crack, Sum.inl (y_crack, 100, Sum.inl f_crack))]) [0, 1, 2] rfl
    have hD9 := hD.sub (ws' := [(h0, Sum.inr (9, [Value.ref m_tape, Value.int (nI ln), Value.int s_thrown, Value.ref m_rule, Value.ref m_rules, Value.int (nI sn), Value.ref m_stair, Value.int s_readStairs, Value.int s_fault, Value.int s_faultPlace, Value.int (nI w), Value.int (nI h), Value.ref m_low, Value.ref m_high, Value.ref m_crack, Value.int (nI bc), Value.ref m_weight, Value.ref m_fire, Value.ref m_crowd, Value.ref m_state, Value.ref m_where, Value.int s_hours, Value.int s_fees, Value.int s_looks, Value.ref m_words, Value.int s_end, Value.int s_next, Value.int s_kind, Value.int s_which, Value.int s_place, Value.int s_read, Value.ref m_told, Value.ref m_breaks, Value.ref m_row, Value.ref m_tried, Value.ref m_steps, Value.ref m_paths])), (m_low, Sum.inl (y_low, 100, Sum.inl f_low)), (m_crack, Sum.inl (y_crack, 100, Sum.inl f_crack))]) [0, 1, 2] (by decide) rfl
    have hK9 := hK.sub (tys' := []) [] rfl
    refine W.widen (k := 0) (n := 0) (by decide) (by decide) ?_
    exact W.zret (v := 0) hx hb hr rfl (fun t ht hW => ⟨⟨0, (), rfl, Or.inl rfl, by rw [ht]; exact hP9, va_K.moved hW.alike hK9, hD9⟩, hS.F ht⟩) hS.2.2 dX10_isOpen_23
  · skip
    have c_2 := Int32.not_le.mp c_2
    refine lv_aload_n hx hb dX10_isOpen_9 rfl (lv_at hl 0 rfl) ?_
    refine va_get (D := D) (ci := 9) (v := Value.ref m_crack) (C := RX10) (T := TX10) (N := 37) hx hb hts inG_X10 hown hK hP 0 rfl rfl 14 (by decide) (hts _ kw_4_209) (fun _ h9 => h9) rfl dX10_isOpen_10 ?_
    refine lv_iload_n hx hb dX10_isOpen_13 rfl (lv_at hl 1 rfl) ?_
    refine m_zald hx hb hK hP 2 1 rfl rfl j rfl (by omega) (by decide) dX10_isOpen_14 ?_
    refine lv_topi (fun v_3 ev_3 => ?_)
    refine lv_if_ne (tgt := 22) hx hb dX10_isOpen_15 (by decide) (fun c_4 => ?_) (fun c_4 => ?_)
    · skip
      refine lv_iconst (v := 0) hx hb dX10_isOpen_22 (by decide) ?_
      have hP9 := hP.sub (ws' := [(h0, Sum.inr (9, [Value.ref m_tape, Value.int (nI ln), Value.int s_thrown, Value.ref m_rule, Value.ref m_rules, Value.int (nI sn), Value.ref m_stair, Value.int s_readStairs, Value.int s_fault, Value.int s_faultPlace, Value.int (nI w), Value.int (nI h), Value.ref m_low, Value.ref m_high, Value.ref m_crack, Value.int (nI bc), Value.ref m_weight, Value.ref m_fire, Value.ref m_crowd, Value.ref m_state, Value.ref m_where, Value.int s_hours, Value.int s_fees, Value.int s_looks, Value.ref m_words, Value.int s_end, Value.int s_next, Value.int s_kind, Value.int s_which, Value.int s_place, Value.int s_read, Value.ref m_told, Value.ref m_breaks, Value.ref m_row, Value.ref m_tried, Value.ref m_steps, Value.ref m_paths])), (m_low, Sum.inl (y_low, 100, Sum.inl f_low)), (m_crack, Sum.inl (y_crack, 100, Sum.inl f_crack))]) [0, 1, 2] rfl
      have hD9 := hD.sub (ws' := [(h0, Sum.inr (9, [Value.ref m_tape, Value.int (nI ln), Value.int s_thrown, Value.ref m_rule, Value.ref m_rules, Value.int (nI sn), Value.ref m_stair, Value.int s_readStairs, Value.int s_fault, Value.int s_faultPlace, Value.int (nI w), Value.int (nI h), Value.ref m_low, Value.ref m_high, Value.ref m_crack, Value.int (nI bc), Value.ref m_weight, Value.ref m_fire, Value.ref m_crowd, Value.ref m_state, Value.ref m_where, Value.int s_hours, Value.int s_fees, Value.int s_looks, Value.ref m_words, Value.int s_end, Value.int s_next, Value.int s_kind, Value.int s_which, Value.int s_place, Value.int s_read, Value.ref m_told, Value.ref m_breaks, Value.ref m_row, Value.ref m_tried, Value.ref m_steps, Value.ref m_paths])), (m_low, Sum.inl (y_low, 100, Sum.inl f_low)), (m_crack, Sum.inl (y_crack, 100, Sum.inl f_crack))]) [0, 1, 2] (by decide) rfl
      have hK9 := hK.sub (tys' := []) [] rfl
      refine W.widen (k := 0) (n := 0) (by decide) (by decide) ?_
      exact W.zret (v := 0) hx hb hr rfl (fun t ht hW => ⟨⟨0, (), rfl, Or.inl rfl, by rw [ht]; exact hP9, va_K.moved hW.alike hK9, hD9⟩, hS.F ht⟩) hS.2.2 dX10_isOpen_23
    · skip
      refine lv_iconst (v := 1) hx hb dX10_isOpen_18 (by decide) ?_
      refine lv_goto (tgt := 23) hx hb dX10_isOpen_19 (by decide) ?_
      have hP9 := hP.sub (ws' := [(h0, Sum.inr (9, [Value.ref m_tape, Value.int (nI ln), Value.int s_thrown, Value.ref m_rule, Value.ref m_rules, Value.int (nI sn), Value.ref m_stair, Value.int s_readStairs, Value.int s_fault, Value.int s_faultPlace, Value.int (nI w), Value.int (nI h), Value.ref m_low, Value.ref m_high, Value.ref m_crack, Value.int (nI bc), Value.ref m_weight, Value.ref m_fire, Value.ref m_crowd, Value.ref m_state, Value.ref m_where, Value.int s_hours, Value.int s_fees, Value.int s_looks, Value.ref m_words, Value.int s_end, Value.int s_next, Value.int s_kind, Value.int s_which, Value.int s_place, Value.int s_read, Value.ref m_told, Value.ref m_breaks, Value.ref m_row, Value.ref m_tried, Value.ref m_steps, Value.ref m_paths])), (m_low, Sum.inl (y_low, 100, Sum.inl f_low)), (m_crack, Sum.inl (y_crack, 100, Sum.inl f_crack))]) [0, 1, 2] rfl
      have hD9 := hD.sub (ws' := [(h0, Sum.inr (9, [Value.ref m_tape, Value.int (nI ln), Value.int s_thrown, Value.ref m_rule, Value.ref m_rules, Value.int (nI sn), Value.ref m_stair, Value.int s_readStairs, Value.int s_fault, Value.int s_faultPlace, Value.int (nI w), Value.int (nI h), Value.ref m_low, Value.ref m_high, Value.ref m_crack, Value.int (nI bc), Value.ref m_weight, Value.ref m_fire, Value.ref m_crowd, Value.ref m_state, Value.ref m_where, Value.int s_hours, Value.int s_fees, Value.int s_looks, Value.ref m_words, Value.int s_end, Value.int s_next, Value.int s_kind, Value.int s_which, Value.int s_place, Value.int s_read, Value.ref m_told, Value.ref m_breaks, Value.ref m_row, Value.ref m_tried, Value.ref m_steps, Value.ref m_paths])), (m_low, Sum.inl (y_low, 100, Sum.inl f_low)), (m_crack, Sum.inl (y_crack, 100, Sum.inl f_crack))]) [0, 1, 2] (by decide) rfl
      have hK9 := hK.sub (tys' := []) [] rfl
      refine W.widen (k := 0) (n := 0) (by decide) (by decide) ?_
      exact W.zret (v := 1) hx hb hr rfl (fun t ht hW => ⟨⟨1, (), rfl, Or.inr rfl, by rw [ht]; exact hP9, va_K.moved hW.alike hK9, hD9⟩, hS.F ht⟩) hS.2.2 dX10_isOpen_23
set_option maxHeartbeats 4000000 in
set_option maxRecDepth 100000 in
theorem lp_n_boothAt {p : Program} {l : Launch} {e : Env} {s : State} {m : MethodId} {args : Array Value} {below : List Frame} {meth : Method} {c : Code} {Q : State → Prop} {A : Nat → Prop} {D : va_G} (F : mFix p s m args c cX10_boothAt 3 RX10) (hA : ∀ q, s.heap.size ≤ q → A q) (h0 : Nat) (m_tape : Nat) (ln : Nat) (s_thrown : Int32) (m_rule : Nat) (m_rules : Nat) (sn : Nat) (m_stair : Nat) (s_readStairs : Int32) (s_fault : Int32) (s_faultPlace : Int32) (w : Nat) (h : Nat) (m_low : Nat) (m_high : Nat) (m_crack : Nat) (bc : Nat) (m_weight : Nat) (m_fire : Nat) (m_crowd : Nat) (m_state : Nat) (m_where : Nat) (s_hours : Int32) (s_fees : Int32) (s_looks : Int32) (m_words : Nat) (s_end : Int32) (s_next : Int32) (s_kind : Int32) (s_which : Int32) (s_place : Int32) (s_read : Int32) (m_told : Nat) (m_breaks : Nat) (m_row : Nat) (m_tried : Nat) (m_steps : Nat) (m_paths : Nat) (y_state : ClassId) (f_state : Nat → Int32) (y_where : ClassId) (f_where : Nat → Int32) (x : Int32) (hK : va_K D vwCl [(y_state, .int), (y_where, .int)] s)
    (kx_30 : ∀ (i : Nat), (i < bc) → ∀ (H : Heap) (locs : List Loc), va_P D vwCl [(h0, Sum.inr (9, [Value.ref m_tape, Value.int (nI ln), Value.int s_thrown, Value.ref m_rule, Value.ref m_rules, Value.int (nI sn), Value.ref m_stair, Value.int s_readStairs, Value.int s_fault, Value.int s_faultPlace, Value.int (nI w), Value.int (nI h), Value.ref m_low, Value.ref m_high, Value.ref m_crack, Value.int (nI bc), Value.ref m_weight, Value.ref m_fire, Value.ref m_crowd, Value.ref m_state, Value.ref m_where, Value.int s_hours, Value.int s_fees, Value.int s_looks, Value.ref m_words, Value.int s_end, Value.int s_next, Value.int s_kind, Value.int s_which, Value.int s_place, Value.int s_read, Value.ref m_told, Value.ref m_breaks, Value.ref m_row, Value.ref m_tried, Value.ref m_steps, Value.ref m_paths])), (m_state, Sum.inl (y_state, 10, Sum.inl f_state)), (m_where, Sum.inl (y_where, 10, Sum.inl f_where))] H → va_D A [(h0, Sum.inr (9, [Value.ref m_tape, Value.int (nI ln), Value.int s_thrown, Value.ref m_rule, Value.ref m_rules, Value.int (nI sn), Value.ref m_stair, Value.int s_readStairs, Value.int s_fault, Value.int s_faultPlace, Value.int (nI w), Value.int (nI h), Value.ref m_low, Value.ref m_high, Value.ref m_crack, Value.int (nI bc), Value.ref m_weight, Value.ref m_fire, Value.ref m_crowd, Value.ref m_state, Value.ref m_where, Value.int s_hours, Value.int s_fees, Value.int s_looks, Value.ref m_words, Value.int s_end, Value.int s_next, Value.int s_kind, Value.int s_which, Value.int s_place, Value.int s_read, Value.ref m_told, Value.ref m_breaks, Value.ref m_row, Value.ref m_tried, Value.ref m_steps, Value.ref m_paths])), (m_state, Sum.inl (y_state, 10, Sum.inl f_state)), (m_where, Sum.inl (y_where, 10, Sum.inl f_where))] → va_S A s.heap H locs → ∀ ls : Array Slot, lv_has ls 3 [(2, Value.int (nI i))] → W p l e ({ frames := 0, cells := 0, slots := 0, locals := 0 }) s m args below meth c H locs 0 0 Q (F0 m 30 ls []))
    (kx_38 : ∀ (H : Heap) (locs : List Loc), va_P D vwCl [(h0, Sum.inr (9, [Value.ref m_tape, Value.int (nI ln), Value.int s_thrown, Value.ref m_rule, Value.ref m_rules, Value.int (nI sn), Value.ref m_stair, Value.int s_readStairs, Value.int s_fault, Value.int s_faultPlace, Value.int (nI w), Value.int (nI h), Value.ref m_low, Value.ref m_high, Value.ref m_crack, Value.int (nI bc), Value.ref m_weight, Value.ref m_fire, Value.ref m_crowd, Value.ref m_state, Value.ref m_where, Value.int s_hours, Value.int s_fees, Value.int s_looks, Value.ref m_words, Value.int s_end, Value.int s_next, Value.int s_kind, Value.int s_which, Value.int s_place, Value.int s_read, Value.ref m_told, Value.ref m_breaks, Value.ref m_row, Value.ref m_tried, Value.ref m_steps, Value.ref m_paths])), (m_state, Sum.inl (y_state, 10, Sum.inl f_state)), (m_where, Sum.inl (y_where, 10, Sum.inl f_where))] H → va_D A [(h0, Sum.inr (9, [Value.ref m_tape, Value.int (nI ln), Value.int s_thrown, Value.ref m_rule, Value.ref m_rules, Value.int (nI sn), Value.ref m_stair, Value.int s_readStairs, Value.int s_fault, Value.int s_faultPlace, Value.int (nI w), Value.int (nI h), Value.ref m_low, Value.ref m_high, Value.ref m_crack, Value.int (nI bc), Value.ref m_weight, Value.ref m_fire, Value.ref m_crowd, Value.ref m_state, Value.ref m_where, Value.int s_hours, Value.int s_fees, Value.int s_looks, Value.ref m_words, Value.int s_end, Value.int s_next, Value.int s_kind, Value.int s_which, Value.int s_place, Value.int s_read, Value.ref m_told, Value.ref m_breaks, Value.ref m_row, Value.ref m_tried, Value.ref m_steps, Value.ref m_paths])), (m_state, Sum.inl (y_state, 10, Sum.inl f_state)), (m_where, Sum.inl (y_where, 10, Sum.inl f_where))] → va_S A s.heap H locs → ∀ ls : Array Slot, lv_has ls 3 [] → W p l e ({ frames := 0, cells := 0, slots := 0, locals := 0 }) s m args below meth c H locs 0 0 Q (F0 m 38 ls [])) :
    ∀ n : Nat, ∀ (i : Nat), (i ≤ bc) → (bc ≤ 10) → (bc - i) < n → ∀ (H : Heap) (locs : List Loc), va_P D vwCl [(h0, Sum.inr (9, [Value.ref m_tape, Value.int (nI ln), Value.int s_thrown, Value.ref m_rule, Value.ref m_rules, Value.int (nI sn), Value.ref m_stair, Value.int s_readStairs, Value.int s_fault, Value.int s_faultPlace, Value.int (nI w), Value.int (nI h), Value.ref m_low, Value.ref m_high, Value.ref m_crack, Value.int (nI bc), Value.ref m_weight, Value.ref m_fire, Value.ref m_crowd, Value.ref m_state, Value.ref m_where, Value.int s_hours, Value.int s_fees, Value.int s_looks, Value.ref m_words, Value.int s_end, Value.int s_next, Value.int s_kind, Value.int s_which, Value.int s_place, Value.int s_read, Value.ref m_told, Value.ref m_breaks, Value.ref m_row, Value.ref m_tried, Value.ref m_steps, Value.ref m_paths])), (m_state, Sum.inl (y_state, 10, Sum.inl f_state)), (m_where, Sum.inl (y_where, 10, Sum.inl f_where))] H → va_D A [(h0, Sum.inr (9, [Value.ref m_tape, Value.int (nI ln), Value.int s_thrown, Value.ref m_rule, Value.ref m_rules, Value.int (nI sn), Value.ref m_stair, Value.int s_readStairs, Value.int s_fault, Value.int s_faultPlace, Value.int (nI w), Value.int (nI h), Value.ref m_low, Value.ref m_high, Value.ref m_crack, Value.int (nI bc), Value.ref m_weight, Value.ref m_fire, Value.ref m_crowd, Value.ref m_state, Value.ref m_where, Value.int s_hours, Value.int s_fees, Value.int s_looks, Value.ref m_words, Value.int s_end, Value.int s_next, Value.int s_kind, Value.int s_which, Value.int s_place, Value.int s_read, Value.ref m_told, Value.ref m_breaks, Value.ref m_row, Value.ref m_tried, Value.ref m_steps, Value.ref m_paths])), (m_state, Sum.inl (y_state, 10, Sum.inl f_state)), (m_where, Sum.inl (y_where, 10, Sum.inl f_where))] → va_S A s.heap H locs → ∀ ls : Array Slot, lv_has ls 3 [(0, Value.ref h0), (1, Value.int x), (2, Value.int (nI i))] → W p l e ({ frames := 0, cells := 0, slots := 0, locals := 0 }) s m args below meth c H locs 0 0 Q (F0 m 2 ls []) := by
  intro n
  induction n with
  | zero => intro i hi hbc hn; exact absurd hn (Nat.not_lt_zero _)
  | succ n ih =>
    intro i hi hbc hn H locs hP hD hS ls hl
    obtain ⟨hx, hb, hml, hown, hts⟩ := id F
    refine lv_iload_n hx hb dX10_boothAt_2 rfl (lv_at hl 2 rfl) ?_
    refine lv_aload_n hx hb dX10_boothAt_3 rfl (lv_at hl 0 rfl) ?_
    refine va_get (D := D) (ci := 9) (v := Value.int (nI bc)) (C := RX10) (T := TX10) (N := 37) hx hb hts inG_X10 hown hK hP 0 rfl rfl 15 (by decide) (hts _ kw_4_210) (fun _ h9 => h9) rfl dX10_boothAt_4 ?_
    refine lv_icmp_ge (tgt := 38) hx hb dX10_boothAt_7 (by decide) (fun c_1 => ?_) (fun c_1 => ?_)
    · skip
      have c_1n : bc ≤ i := (nI_leI (by omega) (by omega)).mp c_1
      have c_1 := Int32.not_lt.mpr c_1
      exact kx_38   H locs (hP.sub [0, 1, 2] rfl) (hD.sub [0, 1, 2] (by decide) rfl) hS ls (lv_sub hl [] rfl)
    · skip
      have c_1n : i < bc := nb_le (by omega) (by omega) c_1
      have c_1 := Int32.not_le.mp c_1
      refine lv_aload_n hx hb dX10_boothAt_10 rfl (lv_at hl 0 rfl) ?_
      refine va_get (D := D) (ci := 9) (v := Value.ref m_state) (C := RX10) (T := TX10) (N := 37) hx hb hts inG_X10 hown hK hP 0 rfl rfl 19 (by decide) (hts _ kw_4_214) (fun _ h9 => h9) rfl dX10_boothAt_11 ?_
      refine lv_iload_n hx hb dX10_boothAt_14 rfl (lv_at hl 2 rfl) ?_
      refine m_iald hx hb hK hP 1 0 rfl rfl i rfl (by omega) (by decide) dX10_boothAt_15 ?_
      refine lv_topi (fun v_2 ev_2 => ?_)
      refine lv_iconst (v := 1) hx hb dX10_boothAt_16 (by decide) ?_
      refine lv_icmp_ne (tgt := 32) hx hb dX10_boothAt_17 (by decide) (fun c_3 => ?_) (fun c_3 => ?_)
      · skip
        refine lv_iinc (v := nI (i + 1)) (lv' := [(2, Value.int (nI (i + 1))), (0, Value.ref h0), (1, Value.int x)]) hx hb dX10_boothAt_32 hl (k := 2) rfl (nI_add i 1) (by decide) rfl (fun ls hl => ?_)
        refine lv_goto (tgt := 2) hx hb dX10_boothAt_35 (by decide) ?_
        exact ih (i + 1) (by omega) (by omega) (by omega) H locs (hP.sub [0, 1, 2] rfl) (hD.sub [0, 1, 2] (by decide) rfl) hS ls (lv_sub hl [1, 2, 0] rfl)
      · skip
        refine lv_aload_n hx hb dX10_boothAt_20 rfl (lv_at hl 0 rfl) ?_
        refine va_get (D := D) (ci := 9) (v := Value.ref m_where) (C := RX10) (T := TX10) (N := 37) hx hb hts inG_X10 hown hK hP 0 rfl rfl 20 (by decide) (hts _ kw_4_215) (fun _ h9 => h9) rfl dX10_boothAt_21 ?_
        refine lv_iload_n hx hb dX10_boothAt_24 rfl (lv_at hl 2 rfl) ?_
        refine m_iald hx hb hK hP 2 1 rfl rfl i rfl (by omega) (by decide) dX10_boothAt_25 ?_
        refine lv_topi (fun v_4 ev_4 => ?_)
        refine lv_iload_n hx hb dX10_boothAt_26 rfl (lv_at hl 1 rfl) ?_
        refine lv_icmp_ne (tgt := 32) hx hb dX10_boothAt_27 (by decide) (fun c_5 => ?_) (fun c_5 => ?_)
        · skip
          refine lv_iinc (v := nI (i + 1)) (lv' := [(2, Value.int (nI (i + 1))), (0, Value.ref h0), (1, Value.int x)]) hx hb dX10_boothAt_32 hl (k := 2) rfl (nI_add i 1) (by decide) rfl (fun ls hl => ?_)
          refine lv_goto (tgt := 2) hx hb dX10_boothAt_35 (by decide) ?_
          exact ih (i + 1) (by omega) (by omega) (by omega) H locs (hP.sub [0, 1, 2] rfl) (hD.sub [0, 1, 2] (by decide) rfl) hS ls (lv_sub hl [1, 2, 0] rfl)
        · skip
          exact kx_30 i (by omega) H locs (hP.sub [0, 1, 2] rfl) (hD.sub [0, 1, 2] (by decide) rfl) hS ls (lv_sub hl [2] rfl)
set_option maxHeartbeats 4000000 in
set_option maxRecDepth 100000 in
theorem n_boothAt (l : Launch) (D : va_G) (h0 : Nat) (m_tape : Nat) (ln : Nat) (s_thrown : Int32) (m_rule : Nat) (m_rules : Nat) (sn : Nat) (m_stair : Nat) (s_readStairs : Int32) (s_fault : Int32) (s_faultPlace : Int32) (w : Nat) (h : Nat) (m_low : Nat) (m_high : Nat) (m_crack : Nat) (bc : Nat) (m_weight : Nat) (m_fire : Nat) (m_crowd : Nat) (m_state : Nat) (m_where : Nat) (s_hours : Int32) (s_fees : Int32) (s_looks : Int32) (m_words : Nat) (s_end : Int32) (s_next : Int32) (s_kind : Int32) (s_which : Int32) (s_place : Int32) (s_read : Int32) (m_told : Nat) (m_breaks : Nat) (m_row : Nat) (m_tried : Nat) (m_steps : Nat) (m_paths : Nat) (y_state : ClassId) (f_state : Nat → Int32) (y_where : ClassId) (f_where : Nat → Int32) (x : Int32) (hbc : bc ≤ 10) : cI l yX10_boothAt (.code yX10_boothAt cX10_boothAt 3 (some .int)) ({ frames := 0, cells := 0, slots := 0, locals := 0 }) D [(y_state, .int), (y_where, .int)] [(h0, Sum.inr (9, [Value.ref m_tape, Value.int (nI ln), Value.int s_thrown, Value.ref m_rule, Value.ref m_rules, Value.int (nI sn), Value.ref m_stair, Value.int s_readStairs, Value.int s_fault, Value.int s_faultPlace, Value.int (nI w), Value.int (nI h), Value.ref m_low, Value.ref m_high, Value.ref m_crack, Value.int (nI bc), Value.ref m_weight, Value.ref m_fire, Value.ref m_crowd, Value.ref m_state, Value.ref m_where, Value.int s_hours, Value.int s_fees, Value.int s_looks, Value.ref m_words, Value.int s_end, Value.int s_next, Value.int s_kind, Value.int s_which, Value.int s_place, Value.int s_read, Value.ref m_told, Value.ref m_breaks, Value.ref m_row, Value.ref m_tried, Value.ref m_steps, Value.ref m_paths])), (m_state, Sum.inl (y_state, 10, Sum.inl f_state)), (m_where, Sum.inl (y_where, 10, Sum.inl f_where))] xT [Value.ref h0, Value.int x] (S := Unit) (fun r _ => r = (-1) ∨ ∃ q : Nat, q < bc ∧ r = nI q) (fun _ => []) (fun _ => [(h0, Sum.inr (9, [Value.ref m_tape, Value.int (nI ln), Value.int s_thrown, Value.ref m_rule, Value.ref m_rules, Value.int (nI sn), Value.ref m_stair, Value.int s_readStairs, Value.int s_fault, Value.int s_faultPlace, Value.int (nI w), Value.int (nI h), Value.ref m_low, Value.ref m_high, Value.ref m_crack, Value.int (nI bc), Value.ref m_weight, Value.ref m_fire, Value.ref m_crowd, Value.ref m_state, Value.ref m_where, Value.int s_hours, Value.int s_fees, Value.int s_looks, Value.ref m_words, Value.int s_end, Value.int s_next, Value.int s_kind, Value.int s_which, Value.int s_place, Value.int s_read, Value.ref m_told, Value.ref m_breaks, Value.ref m_row, Value.ref m_tried, Value.ref m_steps, Value.ref m_paths])), (m_state, Sum.inl (y_state, 10, Sum.inl f_state)), (m_where, Sum.inl (y_where, 10, Sum.inl f_where))]) := by
  intro sz
  refine Met.ofW (cc := cX10_boothAt) (maxL := 3) (ret := (some .int)) (by decide) rfl ?_
  intro p e s m args below meth c s₁ B hml hv
  obtain ⟨rfl, hsz, hP, hK, hD0, hX⟩ := hv
  have hx := B.exec
  have hb := B.bytes
  have hr := B.returns
  have hts0 := atoms_spec (ws := .code yX10_boothAt cX10_boothAt 3 (some .int) :: gw) B.pre
  have hts := fun (w : Cond) (h : w ∈ gw) => hts0 w (List.mem_cons_of_mem _ h)
  have hown : s.vm.findClass RX10 = some m.cls := findClass_of_methodNamed B.named
  have hlocks := B.notSynchronized
  have F : mFix p s m _ c cX10_boothAt 3 RX10 := ⟨hx, hb, hml, hown, hts⟩
  subst hsz
  have hD := hD0.self (sz := s.heap.size)
  generalize hAe : va_A [(h0, Sum.inr (9, [Value.ref m_tape, Value.int (nI ln), Value.int s_thrown, Value.ref m_rule, Value.ref m_rules, Value.int (nI sn), Value.ref m_stair, Value.int s_readStairs, Value.int s_fault, Value.int s_faultPlace, Value.int (nI w), Value.int (nI h), Value.ref m_low, Value.ref m_high, Value.ref m_crack, Value.int (nI bc), Value.ref m_weight, Value.ref m_fire, Value.ref m_crowd, Value.ref m_state, Value.ref m_where, Value.int s_hours, Value.int s_fees, Value.int s_looks, Value.ref m_words, Value.int s_end, Value.int s_next, Value.int s_kind, Value.int s_which, Value.int s_place, Value.int s_read, Value.ref m_told, Value.ref m_breaks, Value.ref m_row, Value.ref m_tried, Value.ref m_steps, Value.ref m_paths])), (m_state, Sum.inl (y_state, 10, Sum.inl f_state)), (m_where, Sum.inl (y_where, 10, Sum.inl f_where))] s.heap.size = A at hD hX ⊢
  have hA : ∀ q : Nat, s.heap.size ≤ q → A q := fun q h => by rw [← hAe]; exact Or.inr h
  have hS : va_S A s.heap s.heap [] := va_S.rf
  have hl := lv_entry ([Value.ref h0, Value.int x]) (n := 3) (Nat.le_of_ble_eq_true rfl)
  rw [lg_entry_eq]
  generalize (lg_sl ([Value.ref h0, Value.int x]) ++ List.replicate (3 - (lg_sl ([Value.ref h0, Value.int x])).length) Slot.unset).toArray = ls at hl ⊢
  have hl : lv_has ls 3 [(0, Value.ref h0), (1, Value.int x)] := hl
  have hP : va_P D vwCl [(h0, Sum.inr (9, [Value.ref m_tape, Value.int (nI ln), Value.int s_thrown, Value.ref m_rule, Value.ref m_rules, Value.int (nI sn), Value.ref m_stair, Value.int s_readStairs, Value.int s_fault, Value.int s_faultPlace, Value.int (nI w), Value.int (nI h), Value.ref m_low, Value.ref m_high, Value.ref m_crack, Value.int (nI bc), Value.ref m_weight, Value.ref m_fire, Value.ref m_crowd, Value.ref m_state, Value.ref m_where, Value.int s_hours, Value.int s_fees, Value.int s_looks, Value.ref m_words, Value.int s_end, Value.int s_next, Value.int s_kind, Value.int s_which, Value.int s_place, Value.int s_read, Value.ref m_told, Value.ref m_breaks, Value.ref m_row, Value.ref m_tried, Value.ref m_steps, Value.ref m_paths])), (m_state, Sum.inl (y_state, 10, Sum.inl f_state)), (m_where, Sum.inl (y_where, 10, Sum.inl f_where))] s.heap := hP
  refine lv_iconst (v := 0) hx hb dX10_boothAt_0 (by decide) ?_
  refine lv_istore_n (lv' := [(2, Value.int 0), (0, Value.ref h0), (1, Value.int x)]) hx hb dX10_boothAt_1 rfl hl (by decide) rfl (fun ls hl => ?_)
  refine lp_n_boothAt F hA h0 m_tape ln s_thrown m_rule m_rules sn m_stair s_readStairs s_fault s_faultPlace w h m_low m_high m_crack bc m_weight m_fire m_crowd m_state m_where s_hours s_fees s_looks m_words s_end s_next s_kind s_which s_place s_read m_told m_breaks m_row m_tried m_steps m_paths y_state f_state y_where f_where x (hK.sub [0, 1] rfl) (fun i_1 h_2 H locs hP hD hS ls hl => ?_) (fun   H locs hP hD hS ls hl => ?_) _ 0 (by omega) (by omega) (Nat.lt_succ_self _) _ _ (hP.sub [0, 1, 2] rfl) (hD.sub [0, 1, 2] (by decide) rfl) hS ls (lv_sub hl [1, 2, 0] rfl)
  · skip
    have h_2 : i_1 < bc := h_2
    refine lv_iload_n hx hb dX10_boothAt_30 rfl (lv_at hl 0 rfl) ?_
    have hP9 := hP.sub (ws' := [(h0, Sum.inr (9, [Value.ref m_tape, Value.int (nI ln), Value.int s_thrown, Value.ref m_rule, Value.ref m_rules, Value.int (nI sn), Value.ref m_stair, Value.int s_readStairs, Value.int s_fault, Value.int s_faultPlace, Value.int (nI w), Value.int (nI h), Value.ref m_low, Value.ref m_high, Value.ref m_crack, Value.int (nI bc), Value.ref m_weight, Value.ref m_fire, Value.ref m_crowd, Value.ref m_state, Value.ref m_where, Value.int s_hours, Value.int s_fees, Value.int s_looks, Value.ref m_words, Value.int s_end, Value.int s_next, Value.int s_kind, Value.int s_which, Value.int s_place, Value.int s_read, Value.ref m_told, Value.ref m_breaks, Value.ref m_row, Value.ref m_tried, Value.ref m_steps, Value.ref m_paths])), (m_state, Sum.inl (y_state, 10, Sum.inl f_state)), (m_where, Sum.inl (y_where, 10, Sum.inl f_where))]) [0, 1, 2] rfl
    have hD9 := hD.sub (ws' := [(h0, Sum.inr (9, [Value.ref m_tape, Value.int (nI ln), Value.int s_thrown, Value.ref m_rule, Value.ref m_rules, Value.int (nI sn), Value.ref m_stair, Value.int s_readStairs, Value.int s_fault, Value.int s_faultPlace, Value.int (nI w), Value.int (nI h), Value.ref m_low, Value.ref m_high, Value.ref m_crack, Value.int (nI bc), Value.ref m_weight, Value.ref m_fire, Value.ref m_crowd, Value.ref m_state, Value.ref m_where, Value.int s_hours, Value.int s_fees, Value.int s_looks, Value.ref m_words, Value.int s_end, Value.int s_next, Value.int s_kind, Value.int s_which, Value.int s_place, Value.int s_read, Value.ref m_told, Value.ref m_breaks, Value.ref m_row, Value.ref m_tried, Value.ref m_steps, Value.ref m_paths])), (m_state, Sum.inl (y_state, 10, Sum.inl f_state)), (m_where, Sum.inl (y_where, 10, Sum.inl f_where))]) [0, 1, 2] (by decide) rfl
    have hK9 := hK.sub (tys' := []) [] rfl
    refine W.widen (k := 0) (n := 0) (by decide) (by decide) ?_
    exact W.iret (v := nI i_1) hx hb hr (fun t ht hW => ⟨⟨(nI i_1), (), rfl, Or.inr ⟨_, h_2, rfl⟩, by rw [ht]; exact hP9, va_K.moved hW.alike hK9, hD9⟩, hS.F ht⟩) hS.2.2 dX10_boothAt_31
  · skip
    refine lv_iconst (v := -1) hx hb dX10_boothAt_38 (by decide) ?_
    have hP9 := hP.sub (ws' := [(h0, Sum.inr (9, [Value.ref m_tape, Value.int (nI ln), Value.int s_thrown, Value.ref m_rule, Value.ref m_rules, Value.int (nI sn), Value.ref m_stair, Value.int s_readStairs, Value.int s_fault, Value.int s_faultPlace, Value.int (nI w), Value.int (nI h), Value.ref m_low, Value.ref m_high, Value.ref m_crack, Value.int (nI bc), Value.ref m_weight, Value.ref m_fire, Value.ref m_crowd, Value.ref m_state, Value.ref m_where, Value.int s_hours, Value.int s_fees, Value.int s_looks, Value.ref m_words, Value.int s_end, Value.int s_next, Value.int s_kind, Value.int s_which, Value.int s_place, Value.int s_read, Value.ref m_told, Value.ref m_breaks, Value.ref m_row, Value.ref m_tried, Value.ref m_steps, Value.ref m_paths])), (m_state, Sum.inl (y_state, 10, Sum.inl f_state)), (m_where, Sum.inl (y_where, 10, Sum.inl f_where))]) [0, 1, 2] rfl
    have hD9 := hD.sub (ws' := [(h0, Sum.inr (9, [Value.ref m_tape, Value.int (nI ln), Value.int s_thrown, Value.ref m_rule, Value.ref m_rules, Value.int (nI sn), Value.ref m_stair, Value.int s_readStairs, Value.int s_fault, Value.int s_faultPlace, Value.int (nI w), Value.int (nI h), Value.ref m_low, Value.ref m_high, Value.ref m_crack, Value.int (nI bc), Value.ref m_weight, Value.ref m_fire, Value.ref m_crowd, Value.ref m_state, Value.ref m_where, Value.int s_hours, Value.int s_fees, Value.int s_looks, Value.ref m_words, Value.int s_end, Value.int s_next, Value.int s_kind, Value.int s_which, Value.int s_place, Value.int s_read, Value.ref m_told, Value.ref m_breaks, Value.ref m_row, Value.ref m_tried, Value.ref m_steps, Value.ref m_paths])), (m_state, Sum.inl (y_state, 10, Sum.inl f_state)), (m_where, Sum.inl (y_where, 10, Sum.inl f_where))]) [0, 1, 2] (by decide) rfl
    have hK9 := hK.sub (tys' := []) [] rfl
    refine W.widen (k := 0) (n := 0) (by decide) (by decide) ?_
    exact W.iret (v := (-1)) hx hb hr (fun t ht hW => ⟨⟨((-1)), (), rfl, Or.inl rfl, by rw [ht]; exact hP9, va_K.moved hW.alike hK9, hD9⟩, hS.F ht⟩) hS.2.2 dX10_boothAt_39
set_option maxHeartbeats 4000000 in
set_option maxRecDepth 100000 in
theorem n_isBooth (l : Launch) (D : va_G) (h0 : Nat) (m_tape : Nat) (ln : Nat) (s_thrown : Int32) (m_rule : Nat) (m_rules : Nat) (sn : Nat) (m_stair : Nat) (s_readStairs : Int32) (s_fault : Int32) (s_faultPlace : Int32) (w : Nat) (h : Nat) (m_low : Nat) (m_high : Nat) (m_crack : Nat) (bc : Nat) (m_weight : Nat) (m_fire : Nat) (m_crowd : Nat) (m_state : Nat) (m_where : Nat) (s_hours : Int32) (s_fees : Int32) (s_looks : Int32) (m_words : Nat) (s_end : Int32) (s_next : Int32) (s_kind : Int32) (s_which : Int32) (s_place : Int32) (s_read : Int32) (m_told : Nat) (m_breaks : Nat) (m_row : Nat) (m_tried : Nat) (m_steps : Nat) (m_paths : Nat) (y_state : ClassId) (f_state : Nat → Int32) (x : Int32) (y : Int32) (hbc : bc ≤ 10) : cI l yX10_isBooth (.code yX10_isBooth cX10_isBooth 3 (some .boolean)) ({ frames := 0, cells := 0, slots := 0, locals := 0 }) D [(y_state, .int)] [(h0, Sum.inr (9, [Value.ref m_tape, Value.int (nI ln), Value.int s_thrown, Value.ref m_rule, Value.ref m_rules, Value.int (nI sn), Value.ref m_stair, Value.int s_readStairs, Value.int s_fault, Value.int s_faultPlace, Value.int (nI w), Value.int (nI h), Value.ref m_low, Value.ref m_high, Value.ref m_crack, Value.int (nI bc), Value.ref m_weight, Value.ref m_fire, Value.ref m_crowd, Value.ref m_state, Value.ref m_where, Value.int s_hours, Value.int s_fees, Value.int s_looks, Value.ref m_words, Value.int s_end, Value.int s_next, Value.int s_kind, Value.int s_which, Value.int s_place, Value.int s_read, Value.ref m_told, Value.ref m_breaks, Value.ref m_row, Value.ref m_tried, Value.ref m_steps, Value.ref m_paths])), (m_state, Sum.inl (y_state, 10, Sum.inl f_state))] xT [Value.ref h0, Value.int x, Value.int y] (S := Unit) (fun r _ => (r = 0 ∨ r = 1) ∧ (¬ r = 0 → ∃ q : Nat, q < bc ∧ x = nI q)) (fun _ => []) (fun _ => [(h0, Sum.inr (9, [Value.ref m_tape, Value.int (nI ln), Value.int s_thrown, Value.ref m_rule, Value.ref m_rules, Value.int (nI sn), Value.ref m_stair, Value.int s_readStairs, Value.int s_fault, Value.int s_faultPlace, Value.int (nI w), Value.int (nI h), Value.ref m_low, Value.ref m_high, Value.ref m_crack, Value.int (nI bc), Value.ref m_weight, Value.ref m_fire, Value.ref m_crowd, Value.ref m_state, Value.ref m_where, Value.int s_hours, Value.int s_fees, Value.int s_looks, Value.ref m_words, Value.int s_end, Value.int s_next, Value.int s_kind, Value.int s_which, Value.int s_place, Value.int s_read, Value.ref m_told, Value.ref m_breaks, Value.ref m_row, Value.ref m_tried, Value.ref m_steps, Value.ref m_paths])), (m_state, Sum.inl (y_state, 10, Sum.inl f_state))]) := by
  intro sz
  refine Met.ofW (cc := cX10_isBooth) (maxL := 3) (ret := (some .boolean)) (by decide) rfl ?_
  intro p e s m args below meth c s₁ B hml hv
  obtain ⟨rfl, hsz, hP, hK, hD0, hX⟩ := hv
  have hx := B.exec
  have hb := B.bytes
  have hr := B.returns
  have hts0 := atoms_spec (ws := .code yX10_isBooth cX10_isBooth 3 (some .boolean) :: gw) B.pre
  have hts := fun (w : Cond) (h : w ∈ gw) => hts0 w (List.mem_cons_of_mem _ h)
  have hown : s.vm.findClass RX10 = some m.cls := findClass_of_methodNamed B.named
  have hlocks := B.notSynchronized
  have F : mFix p s m _ c cX10_isBooth 3 RX10 := ⟨hx, hb, hml, hown, hts⟩
  subst hsz
  have hD := hD0.self (sz := s.heap.size)
  generalize hAe : va_A [(h0, Sum.inr (9, [Value.ref m_tape, Value.int (nI ln), Value.int s_thrown, Value.ref m_rule, Value.ref m_rules, Value.int (nI sn), Value.ref m_stair, Value.int s_readStairs, Value.int s_fault, Value.int s_faultPlace, Value.int (nI w), Value.int (nI h), Value.ref m_low, Value.ref m_high, Value.ref m_crack, Value.int (nI bc), Value.ref m_weight, Value.ref m_fire, Value.ref m_crowd, Value.ref m_state, Value.ref m_where, Value.int s_hours, Value.int s_fees, Value.int s_looks, Value.ref m_words, Value.int s_end, Value.int s_next, Value.int s_kind, Value.int s_which, Value.int s_place, Value.int s_read, Value.ref m_told, Value.ref m_breaks, Value.ref m_row, Value.ref m_tried, Value.ref m_steps, Value.ref m_paths])), (m_state, Sum.inl (y_state, 10, Sum.inl f_state))] s.heap.size = A at hD hX ⊢
  have hA : ∀ q : Nat, s.heap.size ≤ q → A q := fun q h => by rw [← hAe]; exact Or.inr h
  have hS : va_S A s.heap s.heap [] := va_S.rf
  have hl := lv_entry ([Value.ref h0, Value.int x, Value.int y]) (n := 3) (Nat.le_of_ble_eq_true rfl)
  rw [lg_entry_eq]
  generalize (lg_sl ([Value.ref h0, Value.int x, Value.int y]) ++ List.replicate (3 - (lg_sl ([Value.ref h0, Value.int x, Value.int y])).length) Slot.unset).toArray = ls at hl ⊢
  have hl : lv_has ls 3 [(0, Value.ref h0), (1, Value.int x), (2, Value.int y)] := hl
  have hP : va_P D vwCl [(h0, Sum.inr (9, [Value.ref m_tape, Value.int (nI ln), Value.int s_thrown, Value.ref m_rule, Value.ref m_rules, Value.int (nI sn), Value.ref m_stair, Value.int s_readStairs, Value.int s_fault, Value.int s_faultPlace, Value.int (nI w), Value.int (nI h), Value.ref m_low, Value.ref m_high, Value.ref m_crack, Value.int (nI bc), Value.ref m_weight, Value.ref m_fire, Value.ref m_crowd, Value.ref m_state, Value.ref m_where, Value.int s_hours, Value.int s_fees, Value.int s_looks, Value.ref m_words, Value.int s_end, Value.int s_next, Value.int s_kind, Value.int s_which, Value.int s_place, Value.int s_read, Value.ref m_told, Value.ref m_breaks, Value.ref m_row, Value.ref m_tried, Value.ref m_steps, Value.ref m_paths])), (m_state, Sum.inl (y_state, 10, Sum.inl f_state))] s.heap := hP
  refine lv_iload_n hx hb dX10_isBooth_0 rfl (lv_at hl 1 rfl) ?_
  refine lv_if_lt (tgt := 26) hx hb dX10_isBooth_1 (by decide) (fun c_1 => ?_) (fun c_1 => ?_)
  · skip
    refine lv_iconst (v := 0) hx hb dX10_isBooth_26 (by decide) ?_
    have hP9 := hP.sub (ws' := [(h0, Sum.inr (9, [Value.ref m_tape, Value.int (nI ln), Value.int s_thrown, Value.ref m_rule, Value.ref m_rules, Value.int (nI sn), Value.ref m_stair, Value.int s_readStairs, Value.int s_fault, Value.int s_faultPlace, Value.int (nI w), Value.int (nI h), Value.ref m_low, Value.ref m_high, Value.ref m_crack, Value.int (nI bc), Value.ref m_weight, Value.ref m_fire, Value.ref m_crowd, Value.ref m_state, Value.ref m_where, Value.int s_hours, Value.int s_fees, Value.int s_looks, Value.ref m_words, Value.int s_end, Value.int s_next, Value.int s_kind, Value.int s_which, Value.int s_place, Value.int s_read, Value.ref m_told, Value.ref m_breaks, Value.ref m_row, Value.ref m_tried, Value.ref m_steps, Value.ref m_paths])), (m_state, Sum.inl (y_state, 10, Sum.inl f_state))]) [0, 1] rfl
    have hD9 := hD.sub (ws' := [(h0, Sum.inr (9, [Value.ref m_tape, Value.int (nI ln), Value.int s_thrown, Value.ref m_rule, Value.ref m_rules, Value.int (nI sn), Value.ref m_stair, Value.int s_readStairs, Value.int s_fault, Value.int s_faultPlace, Value.int (nI w), Value.int (nI h), Value.ref m_low, Value.ref m_high, Value.ref m_crack, Value.int (nI bc), Value.ref m_weight, Value.ref m_fire, Value.ref m_crowd, Value.ref m_state, Value.ref m_where, Value.int s_hours, Value.int s_fees, Value.int s_looks, Value.ref m_words, Value.int s_end, Value.int s_next, Value.int s_kind, Value.int s_which, Value.int s_place, Value.int s_read, Value.ref m_told, Value.ref m_breaks, Value.ref m_row, Value.ref m_tried, Value.ref m_steps, Value.ref m_paths])), (m_state, Sum.inl (y_state, 10, Sum.inl f_state))]) [0, 1] (by decide) rfl
    have hK9 := hK.sub (tys' := []) [] rfl
    refine W.widen (k := 0) (n := 0) (by decide) (by decide) ?_
    exact W.zret (v := 0) hx hb hr rfl (fun t ht hW => ⟨⟨0, (), rfl, ⟨Or.inl rfl, fun h => absurd rfl h⟩, by rw [ht]; exact hP9, va_K.moved hW.alike hK9, hD9⟩, hS.F ht⟩) hS.2.2 dX10_isBooth_27
  · skip
    refine lv_iload_n hx hb dX10_isBooth_4 rfl (lv_at hl 1 rfl) ?_
    refine lv_aload_n hx hb dX10_isBooth_5 rfl (lv_at hl 0 rfl) ?_
    refine va_get (D := D) (ci := 9) (v := Value.int (nI bc)) (C := RX10) (T := TX10) (N := 37) hx hb hts inG_X10 hown hK hP 0 rfl rfl 15 (by decide) (hts _ kw_4_210) (fun _ h9 => h9) rfl dX10_isBooth_6 ?_
    refine lv_icmp_ge (tgt := 26) hx hb dX10_isBooth_9 (by decide) (fun c_2 => ?_) (fun c_2 => ?_)
    · skip
      have c_2 := Int32.not_lt.mpr c_2
      refine lv_iconst (v := 0) hx hb dX10_isBooth_26 (by decide) ?_
      have hP9 := hP.sub (ws' := [(h0, Sum.inr (9, [Value.ref m_tape, Value.int (nI ln), Value.int s_thrown, Value.ref m_rule, Value.ref m_rules, Value.int (nI sn), Value.ref m_stair, Value.int s_readStairs, Value.int s_fault, Value.int s_faultPlace, Value.int (nI w), Value.int (nI h), Value.ref m_low, Value.ref m_high, Value.ref m_crack, Value.int (nI bc), Value.ref m_weight, Value.ref m_fire, Value.ref m_crowd, Value.ref m_state, Value.ref m_where, Value.int s_hours, Value.int s_fees, Value.int s_looks, Value.ref m_words, Value.int s_end, Value.int s_next, Value.int s_kind, Value.int s_which, Value.int s_place, Value.int s_read, Value.ref m_told, Value.ref m_breaks, Value.ref m_row, Value.ref m_tried, Value.ref m_steps, Value.ref m_paths])), (m_state, Sum.inl (y_state, 10, Sum.inl f_state))]) [0, 1] rfl
      have hD9 := hD.sub (ws' := [(h0, Sum.inr (9, [Value.ref m_tape, Value.int (nI ln), Value.int s_thrown, Value.ref m_rule, Value.ref m_rules, Value.int (nI sn), Value.ref m_stair, Value.int s_readStairs, Value.int s_fault, Value.int s_faultPlace, Value.int (nI w), Value.int (nI h), Value.ref m_low, Value.ref m_high, Value.ref m_crack, Value.int (nI bc), Value.ref m_weight, Value.ref m_fire, Value.ref m_crowd, Value.ref m_state, Value.ref m_where, Value.int s_hours, Value.int s_fees, Value.int s_looks, Value.ref m_words, Value.int s_end, Value.int s_next, Value.int s_kind, Value.int s_which, Value.int s_place, Value.int s_read, Value.ref m_told, Value.ref m_breaks, Value.ref m_row, Value.ref m_tried, Value.ref m_steps, Value.ref m_paths])), (m_state, Sum.inl (y_state, 10, Sum.inl f_state))]) [0, 1] (by decide) rfl
      have hK9 := hK.sub (tys' := []) [] rfl
      refine W.widen (k := 0) (n := 0) (by decide) (by decide) ?_
      exact W.zret (v := 0) hx hb hr rfl (fun t ht hW => ⟨⟨0, (), rfl, ⟨Or.inl rfl, fun h => absurd rfl h⟩, by rw [ht]; exact hP9, va_K.moved hW.alike hK9, hD9⟩, hS.F ht⟩) hS.2.2 dX10_isBooth_27
    · skip
      have c_2 := Int32.not_le.mp c_2
      obtain ⟨jx, hjx, ejx⟩ := n_lt (N := bc) c_1 (Int32.not_le.mpr c_2) (by omega)
      subst ejx
      have hl : lv_has ls 3 [(0, Value.ref h0), (1, Value.int (nI jx)), (2, Value.int y)] := hl
      refine lv_aload_n hx hb dX10_isBooth_12 rfl (lv_at hl 0 rfl) ?_
      refine va_get (D := D) (ci := 9) (v := Value.ref m_state) (C := RX10) (T := TX10) (N := 37) hx hb hts inG_X10 hown hK hP 0 rfl rfl 19 (by decide) (hts _ kw_4_214) (fun _ h9 => h9) rfl dX10_isBooth_13 ?_
      refine lv_iload_n hx hb dX10_isBooth_16 rfl (lv_at hl 1 rfl) ?_
      refine m_iald hx hb hK hP 1 0 rfl rfl jx rfl (by omega) (by decide) dX10_isBooth_17 ?_
      refine lv_topi (fun v_3 ev_3 => ?_)
      refine lv_iload_n hx hb dX10_isBooth_18 rfl (lv_at hl 2 rfl) ?_
      refine lv_icmp_ne (tgt := 26) hx hb dX10_isBooth_19 (by decide) (fun c_4 => ?_) (fun c_4 => ?_)
      · skip
        refine lv_iconst (v := 0) hx hb dX10_isBooth_26 (by decide) ?_
        have hP9 := hP.sub (ws' := [(h0, Sum.inr (9, [Value.ref m_tape, Value.int (nI ln), Value.int s_thrown, Value.ref m_rule, Value.ref m_rules, Value.int (nI sn), Value.ref m_stair, Value.int s_readStairs, Value.int s_fault, Value.int s_faultPlace, Value.int (nI w), Value.int (nI h), Value.ref m_low, Value.ref m_high, Value.ref m_crack, Value.int (nI bc), Value.ref m_weight, Value.ref m_fire, Value.ref m_crowd, Value.ref m_state, Value.ref m_where, Value.int s_hours, Value.int s_fees, Value.int s_looks, Value.ref m_words, Value.int s_end, Value.int s_next, Value.int s_kind, Value.int s_which, Value.int s_place, Value.int s_read, Value.ref m_told, Value.ref m_breaks, Value.ref m_row, Value.ref m_tried, Value.ref m_steps, Value.ref m_paths])), (m_state, Sum.inl (y_state, 10, Sum.inl f_state))]) [0, 1] rfl
        have hD9 := hD.sub (ws' := [(h0, Sum.inr (9, [Value.ref m_tape, Value.int (nI ln), Value.int s_thrown, Value.ref m_rule, Value.ref m_rules, Value.int (nI sn), Value.ref m_stair, Value.int s_readStairs, Value.int s_fault, Value.int s_faultPlace, Value.int (nI w), Value.int (nI h), Value.ref m_low, Value.ref m_high, Value.ref m_crack, Value.int (nI bc), Value.ref m_weight, Value.ref m_fire, Value.ref m_crowd, Value.ref m_state, Value.ref m_where, Value.int s_hours, Value.int s_fees, Value.int s_looks, Value.ref m_words, Value.int s_end, Value.int s_next, Value.int s_kind, Value.int s_which, Value.int s_place, Value.int s_read, Value.ref m_told, Value.ref m_breaks, Value.ref m_row, Value.ref m_tried, Value.ref m_steps, Value.ref m_paths])), (m_state, Sum.inl (y_state, 10, Sum.inl f_state))]) [0, 1] (by decide) rfl
        have hK9 := hK.sub (tys' := []) [] rfl
        refine W.widen (k := 0) (n := 0) (by decide) (by decide) ?_
        exact W.zret (v := 0) hx hb hr rfl (fun t ht hW => ⟨⟨0, (), rfl, ⟨Or.inl rfl, fun h => absurd rfl h⟩, by rw [ht]; exact hP9, va_K.moved hW.alike hK9, hD9⟩, hS.F ht⟩) hS.2.2 dX10_isBooth_27
      · skip
        refine lv_iconst (v := 1) hx hb dX10_isBooth_22 (by decide) ?_
        refine lv_goto (tgt := 27) hx hb dX10_isBooth_23 (by decide) ?_
        have hP9 := hP.sub (ws' := [(h0, Sum.inr (9, [Value.ref m_tape, Value.int (nI ln), Value.int s_thrown, Value.ref m_rule, Value.ref m_rules, Value.int (nI sn), Value.ref m_stair, Value.int s_readStairs, Value.int s_fault, Value.int s_faultPlace, Value.int (nI w), Value.int (nI h), Value.ref m_low, Value.ref m_high, Value.ref m_crack, Value.int (nI bc), Value.ref m_weight, Value.ref m_fire, Value.ref m_crowd, Value.ref m_state, Value.ref m_where, Value.int s_hours, Value.int s_fees, Value.int s_looks, Value.ref m_words, Value.int s_end, Value.int s_next, Value.int s_kind, Value.int s_which, Value.int s_place, Value.int s_read, Value.ref m_told, Value.ref m_breaks, Value.ref m_row, Value.ref m_tried, Value.ref m_steps, Value.ref m_paths])), (m_state, Sum.inl (y_state, 10, Sum.inl f_state))]) [0, 1] rfl
        have hD9 := hD.sub (ws' := [(h0, Sum.inr (9, [Value.ref m_tape, Value.int (nI ln), Value.int s_thrown, Value.ref m_rule, Value.ref m_rules, Value.int (nI sn), Value.ref m_stair, Value.int s_readStairs, Value.int s_fault, Value.int s_faultPlace, Value.int (nI w), Value.int (nI h), Value.ref m_low, Value.ref m_high, Value.ref m_crack, Value.int (nI bc), Value.ref m_weight, Value.ref m_fire, Value.ref m_crowd, Value.ref m_state, Value.ref m_where, Value.int s_hours, Value.int s_fees, Value.int s_looks, Value.ref m_words, Value.int s_end, Value.int s_next, Value.int s_kind, Value.int s_which, Value.int s_place, Value.int s_read, Value.ref m_told, Value.ref m_breaks, Value.ref m_row, Value.ref m_tried, Value.ref m_steps, Value.ref m_paths])), (m_state, Sum.inl (y_state, 10, Sum.inl f_state))]) [0, 1] (by decide) rfl
        have hK9 := hK.sub (tys' := []) [] rfl
        refine W.widen (k := 0) (n := 0) (by decide) (by decide) ?_
        exact W.zret (v := 1) hx hb hr rfl (fun t ht hW => ⟨⟨1, (), rfl, ⟨Or.inr rfl, fun _ => ⟨jx, hjx, rfl⟩⟩, by rw [ht]; exact hP9, va_K.moved hW.alike hK9, hD9⟩, hS.F ht⟩) hS.2.2 dX10_isBooth_27