theorem dX10_isCell_0 : decode cX10_isCell 0 = .ok (.iload_n 1, 1) := by decide +kernel
theorem dX10_isCell_1 : decode cX10_isCell 1 = .ok (.ifCond .lt 27, 3) := by decide +kernel
theorem dX10_isCell_28 : decode cX10_isCell 28 = .ok (.iconst 0, 1) := by decide +kernel
theorem dX10_isCell_29 : decode cX10_isCell 29 = .ok (.ireturn, 1) := by decide +kernel
theorem dX10_isCell_4 : decode cX10_isCell 4 = .ok (.iload_n 1, 1) := by decide +kernel
theorem dX10_isCell_5 : decode cX10_isCell 5 = .ok (.aload_n 0, 1) := by decide +kernel
theorem dX10_isCell_6 : decode cX10_isCell 6 = .ok (.getfield 26, 3) := by decide +kernel
theorem dX10_isCell_9 : decode cX10_isCell 9 = .ok (.if_icmp .ge 19, 3) := by decide +kernel
theorem dX10_isCell_12 : decode cX10_isCell 12 = .ok (.iload_n 2, 1) := by decide +kernel
theorem dX10_isCell_13 : decode cX10_isCell 13 = .ok (.ifCond .lt 15, 3) := by decide +kernel
theorem dX10_isCell_16 : decode cX10_isCell 16 = .ok (.iload_n 2, 1) := by decide +kernel
theorem dX10_isCell_17 : decode cX10_isCell 17 = .ok (.aload_n 0, 1) := by decide +kernel
theorem dX10_isCell_18 : decode cX10_isCell 18 = .ok (.getfield 29, 3) := by decide +kernel
theorem dX10_isCell_21 : decode cX10_isCell 21 = .ok (.if_icmp .ge 7, 3) := by decide +kernel
theorem dX10_isCell_24 : decode cX10_isCell 24 = .ok (.iconst 1, 1) := by decide +kernel
theorem dX10_isCell_25 : decode cX10_isCell 25 = .ok (.goto 4, 3) := by decide +kernel
set_option maxHeartbeats 4000000 in
set_option maxRecDepth 100000 in
theorem m_isCell (l : Launch) (D : va_G) (h0 : Nat) (m_tape : Nat) (m_rule : Nat) (m_rules : Nat) (m_stair : Nat) (m_low : Nat) (m_high : Nat) (m_crack : Nat) (m_weight : Nat) (m_fire : Nat) (m_crowd : Nat) (m_state : Nat) (m_where : Nat) (m_words : Nat) (m_told : Nat) (m_breaks : Nat) (m_row : Nat) (m_tried : Nat) (m_steps : Nat) (m_paths : Nat) (s_tapeSize : Int32) (s_thrown : Int32) (s_stairs : Int32) (s_readStairs : Int32) (s_fault : Int32) (s_faultPlace : Int32) (s_booths : Int32) (s_hours : Int32) (s_fees : Int32) (s_looks : Int32) (s_end : Int32) (s_next : Int32) (s_kind : Int32) (s_which : Int32) (s_place : Int32) (s_read : Int32) (w : Nat) (h : Nat) (x : Int32) (y : Int32) (hw : w < 2 ^ 31) (hh : h < 2 ^ 31) : cI l yX10_isCell (.code yX10_isCell cX10_isCell 3 (some .boolean)) ({ frames := 0, cells := 0, slots := 0, locals := 0 }) D [] [(h0, .inr (9, [.ref m_tape, .int s_tapeSize, .int s_thrown, .ref m_rule, .ref m_rules, .int s_stairs, .ref m_stair, .int s_readStairs, .int s_fault, .int s_faultPlace, .int (nI w), .int (nI h), .ref m_low, .ref m_high, .ref m_crack, .int s_booths, .ref m_weight, .ref m_fire, .ref m_crowd, .ref m_state, .ref m_where, .int s_hours, .int s_fees, .int s_looks, .ref m_words, .int s_end, .int s_next, .int s_kind, .int s_which, .int s_place, .int s_read, .ref m_told, .ref m_breaks, .ref m_row, .ref m_tried, .ref m_steps, .ref m_paths]))] xT [.ref h0, .int x, .int y] (S := Unit) (fun r _ => r = (if (x < 0 ∨ ¬ x < nI w ∨ y < 0 ∨ ¬ y < nI h) then 0 else 1)) (fun _ => []) (fun _ => [(h0, .inr (9, [.ref m_tape, .int s_tapeSize, .int s_thrown, .ref m_rule, .ref m_rules, .int s_stairs, .ref m_stair, .int s_readStairs, .int s_fault, .int s_faultPlace, .int (nI w), .int (nI h), .ref m_low, .ref m_high, .ref m_crack, .int s_booths, .ref m_weight, .ref m_fire, .ref m_crowd, .ref m_state, .ref m_where, .int s_hours, .int s_fees, .int s_looks, .ref m_words, .int s_end, .int s_next, .int s_kind, .int s_which, .int s_place, .int s_read, .ref m_told, .ref m_breaks, .ref m_row, .ref m_tried, .ref m_steps, .ref m_paths]))]) := by
  intro sz
  refine Met.ofW (cc := cX10_isCell) (maxL := 3) (ret := (some .boolean)) (by decide) rfl ?_
  intro p e s m args below meth c s₁ B hml hv
  obtain ⟨rfl, hsz, hP, hK, hD0, hX⟩ := hv
  have hx := B.exec
  have hb := B.bytes
  have hr := B.returns
  have hts0 := atoms_spec (ws := .code yX10_isCell cX10_isCell 3 (some .boolean) :: gw) B.pre
  have hts := fun (w : Cond) (h : w ∈ gw) => hts0 w (List.mem_cons_of_mem _ h)
  have hown : s.vm.findClass RX10 = some m.cls := findClass_of_methodNamed B.named
  have hlocks := B.notSynchronized
  have F : mFix p s m _ c cX10_isCell 3 RX10 := ⟨hx, hb, hml, hown, hts⟩
  subst hsz
  have hD := hD0.self (sz := s.heap.size)
  generalize hAe : va_A [(h0, .inr (9, [.ref m_tape, .int s_tapeSize, .int s_thrown, .ref m_rule, .ref m_rules, .int s_stairs, .ref m_stair, .int s_readStairs, .int s_fault, .int s_faultPlace, .int (nI w), .int (nI h), .ref m_low, .ref m_high, .ref m_crack, .int s_booths, .ref m_weight, .ref m_fire, .ref m_crowd, .ref m_state, .ref m_where, .int s_hours, .int s_fees, .int s_looks, .ref m_words, .int s_end, .int s_next, .int s_kind, .int s_which, .int s_place, .int s_read, .ref m_told, .ref m_breaks, .ref m_row, .ref m_tried, .ref m_steps, .ref m_paths]))] s.heap.size = A at hD hX ⊢
  have hA : ∀ q : Nat, s.heap.size ≤ q → A q := fun q h => by rw [← hAe]; exact Or.inr h
  have hS : va_S A s.heap s.heap [] := va_S.rf
  have hl := lv_entry ([.ref h0, .int x, .int y]) (n := 3) (Nat.le_of_ble_eq_true rfl)
  rw [lg_entry_eq]
  generalize (lg_sl ([.ref h0, .int x, .int y]) ++ List.replicate (3 - (lg_sl ([.ref h0, .int x, .int y])).length) Slot.unset).toArray = ls at hl ⊢
  have hl : lv_has ls 3 [(0, .ref h0), (1, .int x), (2, .int y)] := hl
  have hP : va_P D vwCl [(h0, .inr (9, [.ref m_tape, .int s_tapeSize, .int s_thrown, .ref m_rule, .ref m_rules, .int s_stairs, .ref m_stair, .int s_readStairs, .int s_fault, .int s_faultPlace, .int (nI w), .int (nI h), .ref m_low, .ref m_high, .ref m_crack, .int s_booths, .ref m_weight, .ref m_fire, .ref m_crowd, .ref m_state, .ref m_where, .int s_hours, .int s_fees, .int s_looks, .ref m_words, .int s_end, .int s_next, .int s_kind, .int s_which, .int s_place, .int s_read, .ref m_told, .ref m_breaks, .ref m_row, .ref m_tried, .ref m_steps, .ref m_paths]))] s.heap := hP
  refine lv_iload_n hx hb dX10_isCell_0 rfl (lv_at hl 1 rfl) ?_
  refine lv_if_lt (tgt := 28) hx hb dX10_isCell_1 (by decide) (fun c_1 => ?_) (fun c_1 => ?_)
  · skip
    refine lv_iconst (v := 0) hx hb dX10_isCell_28 (by decide) ?_
    have hP9 := hP.sub (ws' := [(h0, .inr (9, [.ref m_tape, .int s_tapeSize, .int s_thrown, .ref m_rule, .ref m_rules, .int s_stairs, .ref m_stair, .int s_readStairs, .int s_fault, .int s_faultPlace, .int (nI w), .int (nI h), .ref m_low, .ref m_high, .ref m_crack, .int s_booths, .ref m_weight, .ref m_fire, .ref m_crowd, .ref m_state, .ref m_where, .int s_hours, .int s_fees, .int s_looks, .ref m_words, .int s_end, .int s_next, .int s_kind, .int s_which, .int s_place, .int s_read, .ref m_told, .ref m_breaks, .ref m_row, .ref m_tried, .ref m_steps, .ref m_paths]))]) [0] rfl
    have hD9 := hD.sub (ws' := [(h0, .inr (9, [.ref m_tape, .int s_tapeSize, .int s_thrown, .ref m_rule, .ref m_rules, .int s_stairs, .ref m_stair, .int s_readStairs, .int s_fault, .int s_faultPlace, .int (nI w), .int (nI h), .ref m_low, .ref m_high, .ref m_crack, .int s_booths, .ref m_weight, .ref m_fire, .ref m_crowd, .ref m_state, .ref m_where, .int s_hours, .int s_fees, .int s_looks, .ref m_words, .int s_end, .int s_next, .int s_kind, .int s_which, .int s_place, .int s_read, .ref m_told, .ref m_breaks, .ref m_row, .ref m_tried, .ref m_steps, .ref m_paths]))]) [0] (by decide) rfl
    have hK9 := hK.sub (tys' := []) [] rfl
    refine W.widen (k := 0) (n := 0) (by decide) (by decide) ?_
    exact W.zret (v := 0) hx hb hr rfl (fun t ht hW => ⟨⟨0, (), rfl, by simp only [c_1, or_false, false_or, or_true, true_or, not_true_eq_false, not_false_eq_true, ↓reduceIte], by rw [ht]; exact hP9, va_K.moved hW.alike hK9, hD9⟩, hS.F ht⟩) hS.2.2 dX10_isCell_29
  · skip
    refine lv_iload_n hx hb dX10_isCell_4 rfl (lv_at hl 1 rfl) ?_
    refine lv_aload_n hx hb dX10_isCell_5 rfl (lv_at hl 0 rfl) ?_
    refine va_get (D := D) (ci := 9) (v := .int (nI w)) (C := RX10) (T := TX10) (N := 37) hx hb hts inG_X10 hown hK hP 0 rfl rfl 10 (by decide) (hts _ kw_4_205) (fun _ h9 => h9) rfl dX10_isCell_6 ?_
    refine lv_icmp_ge (tgt := 28) hx hb dX10_isCell_9 (by decide) (fun c_2 => ?_) (fun c_2 => ?_)
    · skip
      have c_2 := Int32.not_lt.mpr c_2
      refine lv_iconst (v := 0) hx hb dX10_isCell_28 (by decide) ?_
      have hP9 := hP.sub (ws' := [(h0, .inr (9, [.ref m_tape, .int s_tapeSize, .int s_thrown, .ref m_rule, .ref m_rules, .int s_stairs, .ref m_stair, .int s_readStairs, .int s_fault, .int s_faultPlace, .int (nI w), .int (nI h), .ref m_low, .ref m_high, .ref m_crack, .int s_booths, .ref m_weight, .ref m_fire, .ref m_crowd, .ref m_state, .ref m_where, .int s_hours, .int s_fees, .int s_looks, .ref m_words, .int s_end, .int s_next, .int s_kind, .int s_which, .int s_place, .int s_read, .ref m_told, .ref m_breaks, .ref m_row, .ref m_tried, .ref m_steps, .ref m_paths]))]) [0] rfl
      have hD9 := hD.sub (ws' := [(h0, .inr (9, [.ref m_tape, .int s_tapeSize, .int s_thrown, .ref m_rule, .ref m_rules, .int s_stairs, .ref m_stair, .int s_readStairs, .int s_fault, .int s_faultPlace, .int (nI w), .int (nI h), .ref m_low, .ref m_high, .ref m_crack, .int s_booths, .ref m_weight, .ref m_fire, .ref m_crowd, .ref m_state, .ref m_where, .int s_hours, .int s_fees, .int s_looks, .ref m_words, .int s_end, .int s_next, .int s_kind, .int s_which, .int s_place, .int s_read, .ref m_told, .ref m_breaks, .ref m_row, .ref m_tried, .ref m_steps, .ref m_paths]))]) [0] (by decide) rfl
      have hK9 := hK.sub (tys' := []) [] rfl
      refine W.widen (k := 0) (n := 0) (by decide) (by decide) ?_
      exact W.zret (v := 0) hx hb hr rfl (fun t ht hW => ⟨⟨0, (), rfl, by simp only [c_1, c_2, or_false, false_or, or_true, true_or, not_true_eq_false, not_false_eq_true, ↓reduceIte], by rw [ht]; exact hP9, va_K.moved hW.alike hK9, hD9⟩, hS.F ht⟩) hS.2.2 dX10_isCell_29
    · skip
      have c_2 := Int32.not_le.mp c_2
      refine lv_iload_n hx hb dX10_isCell_12 rfl (lv_at hl 2 rfl) ?_
      refine lv_if_lt (tgt := 28) hx hb dX10_isCell_13 (by decide) (fun c_3 => ?_) (fun c_3 => ?_)
      · skip
        refine lv_iconst (v := 0) hx hb dX10_isCell_28 (by decide) ?_
        have hP9 := hP.sub (ws' := [(h0, .inr (9, [.ref m_tape, .int s_tapeSize, .int s_thrown, .ref m_rule, .ref m_rules, .int s_stairs, .ref m_stair, .int s_readStairs, .int s_fault, .int s_faultPlace, .int (nI w), .int (nI h), .ref m_low, .ref m_high, .ref m_crack, .int s_booths, .ref m_weight, .ref m_fire, .ref m_crowd, .ref m_state, .ref m_where, .int s_hours, .int s_fees, .int s_looks, .ref m_words, .int s_end, .int s_next, .int s_kind, .int s_which, .int s_place, .int s_read, .ref m_told, .ref m_breaks, .ref m_row, .ref m_tried, .ref m_steps, .ref m_paths]))]) [0] rfl
        have hD9 := hD.sub (ws' := [(h0, .inr (9, [.ref m_tape, .int s_tapeSize, .int s_thrown, .ref m_rule, .ref m_rules, .int s_stairs, .ref m_stair, .int s_readStairs, .int s_fault, .int s_faultPlace, .int (nI w), .int (nI h), .ref m_low, .ref m_high, .ref m_crack, .int s_booths, .ref m_weight, .ref m_fire, .ref m_crowd, .ref m_state, .ref m_where, .int s_hours, .int s_fees, .int s_looks, .ref m_words, .int s_end, .int s_next, .int s_kind, .int s_which, .int s_place, .int s_read, .ref m_told, .ref m_breaks, .ref m_row, .ref m_tried, .ref m_steps, .ref m_paths]))]) [0] (by decide) rfl
        have hK9 := hK.sub (tys' := []) [] rfl
        refine W.widen (k := 0) (n := 0) (by decide) (by decide) ?_
        exact W.zret (v := 0) hx hb hr rfl (fun t ht hW => ⟨⟨0, (), rfl, by simp only [c_1, c_2, c_3, or_false, false_or, or_true, true_or, not_true_eq_false, not_false_eq_true, ↓reduceIte], by rw [ht]; exact hP9, va_K.moved hW.alike hK9, hD9⟩, hS.F ht⟩) hS.2.2 dX10_isCell_29
      · skip
        refine lv_iload_n hx hb dX10_isCell_16 rfl (lv_at hl 2 rfl) ?_
        refine lv_aload_n hx hb dX10_isCell_17 rfl (lv_at hl 0 rfl) ?_
        refine va_get (D := D) (ci := 9) (v := .int (nI h)) (C := RX10) (T := TX10) (N := 37) hx hb hts inG_X10 hown hK hP 0 rfl rfl 11 (by decide) (hts _ kw_4_206) (fun _ h9 => h9) rfl dX10_isCell_18 ?_
        refine lv_icmp_ge (tgt := 28) hx hb dX10_isCell_21 (by decide) (fun c_4 => ?_) (fun c_4 => ?_)
        · skip
          have c_4 := Int32.not_lt.mpr c_4
          refine lv_iconst (v := 0) hx hb dX10_isCell_28 (by decide) ?_
          have hP9 := hP.sub (ws' := [(h0, .inr (9, [.ref m_tape, .int s_tapeSize, .int s_thrown, .ref m_rule, .ref m_rules, .int s_stairs, .ref m_stair, .int s_readStairs, .int s_fault, .int s_faultPlace, .int (nI w), .int (nI h), .ref m_low, .ref m_high, .ref m_crack, .int s_booths, .ref m_weight, .ref m_fire, .ref m_crowd, .ref m_state, .ref m_where, .int s_hours, .int s_fees, .int s_looks, .ref m_words, .int s_end, .int s_next, .int s_kind, .int s_which, .int s_place, .int s_read, .ref m_told, .ref m_breaks, .ref m_row, .ref m_tried, .ref m_steps, .ref m_paths]))]) [0] rfl
          have hD9 := hD.sub (ws' := [(h0, .inr (9, [.ref m_tape, .int s_tapeSize, .int s_thrown, .ref m_rule, .ref m_rules, .int s_stairs, .ref m_stair, .int s_readStairs, .int s_fault, .int s_faultPlace, .int (nI w), .int (nI h), .ref m_low, .ref m_high, .ref m_crack, .int s_booths, .ref m_weight, .ref m_fire, .ref m_crowd, .ref m_state, .ref m_where, .int s_hours, .int s_fees, .int s_looks, .ref m_words, .int s_end, .int s_next, .int s_kind, .int s_which, .int s_place, .int s_read, .ref m_told, .ref m_breaks, .ref m_row, .ref m_tried, .ref m_steps, .ref m_paths]))]) [0] (by decide) rfl
          have hK9 := hK.sub (tys' := []) [] rfl
          refine W.widen (k := 0) (n := 0) (by decide) (by decide) ?_
          exact W.zret (v := 0) hx hb hr rfl (fun t ht hW => ⟨⟨0, (), rfl, by simp only [c_1, c_2, c_3, c_4, or_false, false_or, or_true, true_or, not_true_eq_false, not_false_eq_true, ↓reduceIte], by rw [ht]; exact hP9, va_K.moved hW.alike hK9, hD9⟩, hS.F ht⟩) hS.2.2 dX10_isCell_29
        · skip
          have c_4 := Int32.not_le.mp c_4
          refine lv_iconst (v := 1) hx hb dX10_isCell_24 (by decide) ?_
          refine lv_goto (tgt := 29) hx hb dX10_isCell_25 (by decide) ?_
          have hP9 := hP.sub (ws' := [(h0, .inr (9, [.ref m_tape, .int s_tapeSize, .int s_thrown, .ref m_rule, .ref m_rules, .int s_stairs, .ref m_stair, .int s_readStairs, .int s_fault, .int s_faultPlace, .int (nI w), .int (nI h), .ref m_low, .ref m_high, .ref m_crack, .int s_booths, .ref m_weight, .ref m_fire, .ref m_crowd, .ref m_state, .ref m_where, .int s_hours, .int s_fees, .int s_looks, .ref m_words, .int s_end, .int s_next, .int s_kind, .int s_which, .int s_place, .int s_read, .ref m_told, .ref m_breaks, .ref m_row, .ref m_tried, .ref m_steps, .ref m_paths]))]) [0] rfl
          have hD9 := hD.sub (ws' := [(h0, .inr (9, [.ref m_tape, .int s_tapeSize, .int s_thrown, .ref m_rule, .ref m_rules, .int s_stairs, .ref m_stair, .int s_readStairs, .int s_fault, .int s_faultPlace, .int (nI w), .int (nI h), .ref m_low, .ref m_high, .ref m_crack, .int s_booths, .ref m_weight, .ref m_fire, .ref m_crowd, .ref m_state, .ref m_where, .int s_hours, .int s_fees, .int s_looks, .ref m_words, .int s_end, .int s_next, .int s_kind, .int s_which, .int s_place, .int s_read, .ref m_told, .ref m_breaks, .ref m_row, .ref m_tried, .ref m_steps, .ref m_paths]))]) [0] (by decide) rfl
          have hK9 := hK.sub (tys' := []) [] rfl
          refine W.widen (k := 0) (n := 0) (by decide) (by decide) ?_
          exact W.zret (v := 1) hx hb hr rfl (fun t ht hW => ⟨⟨1, (), rfl, by simp only [c_1, c_2, c_3, c_4, or_false, false_or, or_true, true_or, not_true_eq_false, not_false_eq_true, ↓reduceIte], by rw [ht]; exact hP9, va_K.moved hW.alike hK9, hD9⟩, hS.F ht⟩) hS.2.2 dX10_isCell_29
theorem dX10_strain_0 : decode cX10_strain 0 = .ok (.iconst 0, 1) := by decide +kernel
theorem dX10_strain_1 : decode cX10_strain 1 = .ok (.istore_n 2, 1) := by decide +kernel
theorem dX10_strain_2 : decode cX10_strain 2 = .ok (.iconst 0, 1) := by decide +kernel
theorem dX10_strain_3 : decode cX10_strain 3 = .ok (.istore_n 3, 1) := by decide +kernel
theorem dX10_strain_4 : decode cX10_strain 4 = .ok (.iload_n 3, 1) := by decide +kernel
theorem dX10_strain_5 : decode cX10_strain 5 = .ok (.aload_n 0, 1) := by decide +kernel
theorem kw_4_210 : Cond.fieldLink RX10 146 "IceFairModel" "booths" "I" ∈ gw := gw_t4 (List.mem_of_getElem? (i := 210) (by decide +kernel)) (by decide +kernel)
theorem dX10_strain_6 : decode cX10_strain 6 = .ok (.getfield 146, 3) := by decide +kernel
theorem dX10_strain_9 : decode cX10_strain 9 = .ok (.if_icmp .ge 111, 3) := by decide +kernel
theorem dX10_strain_120 : decode cX10_strain 120 = .ok (.iload_n 2, 1) := by decide +kernel
theorem dX10_strain_121 : decode cX10_strain 121 = .ok (.ireturn, 1) := by decide +kernel
set_option maxHeartbeats 4000000 in
set_option maxRecDepth 100000 in
theorem m_strain0 (l : Launch) (D : va_G) (h0 : Nat) (m_tape : Nat) (m_rule : Nat) (m_rules : Nat) (m_stair : Nat) (m_low : Nat) (m_high : Nat) (m_crack : Nat) (m_weight : Nat) (m_fire : Nat) (m_crowd : Nat) (m_state : Nat) (m_where : Nat) (m_words : Nat) (m_told : Nat) (m_breaks : Nat) (m_row : Nat) (m_tried : Nat) (m_steps : Nat) (m_paths : Nat) (s_tapeSize : Int32) (s_thrown : Int32) (s_stairs : Int32) (s_readStairs : Int32) (s_fault : Int32) (s_faultPlace : Int32) (s_wide : Int32) (s_tall : Int32) (s_hours : Int32) (s_fees : Int32) (s_looks : Int32) (s_end : Int32) (s_next : Int32) (s_kind : Int32) (s_which : Int32) (s_place : Int32) (s_read : Int32) (x : Int32) : cI l yX10_strain (.code yX10_strain cX10_strain 6 (some .int)) ({ frames := 1, cells := 0, slots := 0, locals := 20 }) D [] [(h0, .inr (9, [.ref m_tape, .int s_tapeSize, .int s_thrown, .ref m_rule, .ref m_rules, .int s_stairs, .ref m_stair, .int s_readStairs, .int s_fault, .int s_faultPlace, .int s_wide, .int s_tall, .ref m_low, .ref m_high, .ref m_crack, .int 0, .ref m_weight, .ref m_fire, .ref m_crowd, .ref m_state, .ref m_where, .int s_hours, .int s_fees, .int s_looks, .ref m_words, .int s_end, .int s_next, .int s_kind, .int s_which, .int s_place, .int s_read, .ref m_told, .ref m_breaks, .ref m_row, .ref m_tried, .ref m_steps, .ref m_paths]))] xT [.ref h0, .int x] (S := Unit) (fun r _ => r = 0) (fun _ => []) (fun _ => [(h0, .inr (9, [.ref m_tape, .int s_tapeSize, .int s_thrown, .ref m_rule, .ref m_rules, .int s_stairs, .ref m_stair, .int s_readStairs, .int s_fault, .int s_faultPlace, .int s_wide, .int s_tall, .ref m_low, .ref m_high, .ref m_crack, .int 0, .ref m_weight, .ref m_fire, .ref m_crowd, .ref m_state, .ref m_where, .int s_hours, .int s_fees, .int s_looks, .ref m_words, .int s_end, .int s_next, .int s_kind, .int s_which, .int s_place, .int s_read, .ref m_told, .ref m_breaks, .ref m_row, .ref m_tried, .ref m_steps, .ref m_paths]))]) := by
  intro sz
  refine Met.ofW (cc := cX10_strain) (maxL := 6) (ret := (some .int)) (by decide) rfl ?_
  intro p e s m args below meth c s₁ B hml hv
  obtain ⟨rfl, hsz, hP, hK, hD0, hX⟩ := hv
  have hx := B.exec
  have hb := B.bytes
  have hr := B.returns
  have hts0 := atoms_spec (ws := .code yX10_strain cX10_strain 6 (some .int) :: gw) B.pre
  have hts := fun (w : Cond) (h : w ∈ gw) => hts0 w (List.mem_cons_of_mem _ h)
  have hown : s.vm.findClass RX10 = some m.cls := findClass_of_methodNamed B.named
  have hlocks := B.notSynchronized
  have F : mFix p s m _ c cX10_strain 6 RX10 := ⟨hx, hb, hml, hown, hts⟩
  subst hsz
  have hD := hD0.self (sz := s.heap.size)
  generalize hAe : va_A [(h0, .inr (9, [.ref m_tape, .int s_tapeSize, .int s_thrown, .ref m_rule, .ref m_rules, .int s_stairs, .ref m_stair, .int s_readStairs, .int s_fault, .int s_faultPlace, .int s_wide, .int s_tall, .ref m_low, .ref m_high, .ref m_crack, .int 0, .ref m_weight, .ref m_fire, .ref m_crowd, .ref m_state, .ref m_where, .int s_hours, .int s_fees, .int s_looks, .ref m_words, .int s_end, .int s_next, .int s_kind, .int s_which, .int s_place, .int s_read, .ref m_told, .ref m_breaks, .ref m_row, .ref m_tried, .ref m_steps, .ref m_paths]))] s.heap.size = A at hD hX ⊢
  have hA : ∀ q : Nat, s.heap.size ≤ q → A q := fun q h => by rw [← hAe]; exact Or.inr h
  have hS : va_S A s.heap s.heap [] := va_S.rf
  have hl := lv_entry ([.ref h0, .int x]) (n := 6) (Nat.le_of_ble_eq_true rfl)
  rw [lg_entry_eq]
  generalize (lg_sl ([.ref h0, .int x]) ++ List.replicate (6 - (lg_sl ([.ref h0, .int x])).length) Slot.unset).toArray = ls at hl ⊢
  have hl : lv_has ls 6 [(0, .ref h0), (1, .int x)] := hl
  have hP : va_P D vwCl [(h0, .inr (9, [.ref m_tape, .int s_tapeSize, .int s_thrown, .ref m_rule, .ref m_rules, .int s_stairs, .ref m_stair, .int s_readStairs, .int s_fault, .int s_faultPlace, .int s_wide, .int s_tall, .ref m_low, .ref m_high, .ref m_crack, .int 0, .ref m_weight, .ref m_fire, .ref m_crowd, .ref m_state, .ref m_where, .int s_hours, .int s_fees, .int s_looks, .ref m_words, .int s_end, .int s_next, .int s_kind, .int s_which, .int s_place, .int s_read, .ref m_told, .ref m_breaks, .ref m_row, .ref m_tried, .ref m_steps, .ref m_paths]))] s.heap := hP
  refine lv_iconst (v := 0) hx hb dX10_strain_0 (by decide) ?_
  refine lv_istore_n (lv' := [(2, .int 0), (0, .ref h0), (1, .int x)]) hx hb dX10_strain_1 rfl hl (by decide) rfl (fun ls hl => ?_)
  refine lv_iconst (v := 0) hx hb dX10_strain_2 (by decide) ?_
  refine lv_istore_n (lv' := [(3, .int 0), (2, .int 0), (0, .ref h0), (1, .int x)]) hx hb dX10_strain_3 rfl hl (by decide) rfl (fun ls hl => ?_)
  refine lv_iload_n hx hb dX10_strain_4 rfl (lv_at hl 0 rfl) ?_
  refine lv_aload_n hx hb dX10_strain_5 rfl (lv_at hl 2 rfl) ?_
  refine va_get (D := D) (ci := 9) (v := .int 0) (C := RX10) (T := TX10) (N := 37) hx hb hts inG_X10 hown hK hP 0 rfl rfl 15 (by decide) (hts _ kw_4_210) (fun _ h9 => h9) rfl dX10_strain_6 ?_
  refine lv_icmp_ge (tgt := 120) hx hb dX10_strain_9 (by decide) (fun c_1 => ?_) (fun c_1 => absurd c_1 (by decide))
  refine lv_iload_n hx hb dX10_strain_120 rfl (lv_at hl 1 rfl) ?_
  have hP9 := hP.sub (ws' := [(h0, .inr (9, [.ref m_tape, .int s_tapeSize, .int s_thrown, .ref m_rule, .ref m_rules, .int s_stairs, .ref m_stair, .int s_readStairs, .int s_fault, .int s_faultPlace, .int s_wide, .int s_tall, .ref m_low, .ref m_high, .ref m_crack, .int 0, .ref m_weight, .ref m_fire, .ref m_crowd, .ref m_state, .ref m_where, .int s_hours, .int s_fees, .int s_looks, .ref m_words, .int s_end, .int s_next, .int s_kind, .int s_which, .int s_place, .int s_read, .ref m_told, .ref m_breaks, .ref m_row, .ref m_tried, .ref m_steps, .ref m_paths]))]) [0] rfl
  have hD9 := hD.sub (ws' := [(h0, .inr (9, [.ref m_tape, .int s_tapeSize, .int s_thrown, .ref m_rule, .ref m_rules, .int s_stairs, .ref m_stair, .int s_readStairs, .int s_fault, .int s_faultPlace, .int s_wide, .int s_tall, .ref m_low, .ref m_high, .ref m_crack, .int 0, .ref m_weight, .ref m_fire, .ref m_crowd, .ref m_state, .ref m_where, .int s_hours, .int s_fees, .int s_looks, .ref m_words, .int s_end, .int s_next, .int s_kind, .int s_which, .int s_place, .int s_read, .ref m_told, .ref m_breaks, .ref m_row, .ref m_tried, .ref m_steps, .ref m_paths]))]) [0] (by decide) rfl
  have hK9 := hK.sub (tys' := []) [] rfl
  refine W.widen (k := 0) (n := 0) (by decide) (by decide) ?_
  exact W.iret (v := 0) hx hb hr (fun t ht hW => ⟨⟨0, (), rfl, rfl, by rw [ht]; exact hP9, va_K.moved hW.alike hK9, hD9⟩, hS.F ht⟩) hS.2.2 dX10_strain_121
theorem dX10_fires_0 : decode cX10_fires 0 = .ok (.iconst 0, 1) := by decide +kernel
theorem dX10_fires_1 : decode cX10_fires 1 = .ok (.istore_n 2, 1) := by decide +kernel
theorem dX10_fires_2 : decode cX10_fires 2 = .ok (.iconst 0, 1) := by decide +kernel
theorem dX10_fires_3 : decode cX10_fires 3 = .ok (.istore_n 3, 1) := by decide +kernel
theorem dX10_fires_4 : decode cX10_fires 4 = .ok (.iload_n 3, 1) := by decide +kernel
theorem dX10_fires_5 : decode cX10_fires 5 = .ok (.aload_n 0, 1) := by decide +kernel
theorem dX10_fires_6 : decode cX10_fires 6 = .ok (.getfield 146, 3) := by decide +kernel
theorem dX10_fires_9 : decode cX10_fires 9 = .ok (.if_icmp .ge 101, 3) := by decide +kernel
theorem dX10_fires_110 : decode cX10_fires 110 = .ok (.iload_n 2, 1) := by decide +kernel
theorem dX10_fires_111 : decode cX10_fires 111 = .ok (.ireturn, 1) := by decide +kernel
set_option maxHeartbeats 4000000 in
set_option maxRecDepth 100000 in
theorem m_fires0 (l : Launch) (D : va_G) (h0 : Nat) (m_tape : Nat) (m_rule : Nat) (m_rules : Nat) (m_stair : Nat) (m_low : Nat) (m_high : Nat) (m_crack : Nat) (m_weight : Nat) (m_fire : Nat) (m_crowd : Nat) (m_state : Nat) (m_where : Nat) (m_words : Nat) (m_told : Nat) (m_breaks : Nat) (m_row : Nat) (m_tried : Nat) (m_steps : Nat) (m_paths : Nat) (s_tapeSize : Int32) (s_thrown : Int32) (s_stairs : Int32) (s_readStairs : Int32) (s_fault : Int32) (s_faultPlace : Int32) (s_wide : Int32) (s_tall : Int32) (s_hours : Int32) (s_fees : Int32) (s_looks : Int32) (s_end : Int32) (s_next : Int32) (s_kind : Int32) (s_which : Int32) (s_place : Int32) (s_read : Int32) (x : Int32) : cI l yX10_fires (.code yX10_fires cX10_fires 5 (some .int)) ({ frames := 1, cells := 0, slots := 0, locals := 20 }) D [] [(h0, .inr (9, [.ref m_tape, .int s_tapeSize, .int s_thrown, .ref m_rule, .ref m_rules, .int s_stairs, .ref m_stair, .int s_readStairs, .int s_fault, .int s_faultPlace, .int s_wide, .int s_tall, .ref m_low, .ref m_high, .ref m_crack, .int 0, .ref m_weight, .ref m_fire, .ref m_crowd, .ref m_state, .ref m_where, .int s_hours, .int s_fees, .int s_looks, .ref m_words, .int s_end, .int s_next, .int s_kind, .int s_which, .int s_place, .int s_read, .ref m_told, .ref m_breaks, .ref m_row, .ref m_tried, .ref m_steps, .ref m_paths]))] xT [.ref h0, .int x] (S := Unit) (fun r _ => r = 0) (fun _ => []) (fun _ => [(h0, .inr (9, [.ref m_tape, .int s_tapeSize, .int s_thrown, .ref m_rule, .ref m_rules, .int s_stairs, .ref m_stair, .int s_readStairs, .int s_fault, .int s_faultPlace, .int s_wide, .int s_tall, .ref m_low, .ref m_high, .ref m_crack, .int 0, .ref m_weight, .ref m_fire, .ref m_crowd, .ref m_state, .ref m_where, .int s_hours, .int s_fees, .int s_looks, .ref m_words, .int s_end, .int s_next, .int s_kind, .int s_which, .int s_place, .int s_read, .ref m_told, .ref m_breaks, .ref m_row, .ref m_tried, .ref m_steps, .ref m_paths]))]) := by
  intro sz
  refine Met.ofW (cc := cX10_fires) (maxL := 5) (ret := (some .int)) (by decide) rfl ?_
  intro p e s m args below meth c s₁ B hml hv
  obtain ⟨rfl, hsz, hP, hK, hD0, hX⟩ := hv
  have hx := B.exec
  have hb := B.bytes
  have hr := B.returns
  have hts0 := atoms_spec (ws := .code yX10_fires cX10_fires 5 (some .int) :: gw) B.pre
  have hts := fun (w : Cond) (h : w ∈ gw) => hts0 w (List.mem_cons_of_mem _ h)
  have hown : s.vm.findClass RX10 = some m.cls := findClass_of_methodNamed B.named
  have hlocks := B.notSynchronized
  have F : mFix p s m _ c cX10_fires 5 RX10 := ⟨hx, hb, hml, hown, hts⟩
  subst hsz
  have hD := hD0.self (sz := s.heap.size)
  generalize hAe : va_A [(h0, .inr (9, [.ref m_tape, .int s_tapeSize, .int s_thrown, .ref m_rule, .ref m_rules, .int s_stairs, .ref m_stair, .int s_readStairs, .int s_fault, .int s_faultPlace, .int s_wide, .int s_tall, .ref m_low, .ref m_high, .ref m_crack, .int 0, .ref m_weight, .ref m_fire, .ref m_crowd, .ref m_state, .ref m_where, .int s_hours, .int s_fees, .int s_looks, .ref m_words, .int s_end, .int s_next, .int s_kind, .int s_which, .int s_place, .int s_read, .ref m_told, .ref m_breaks, .ref m_row, .ref m_tried, .ref m_steps, .ref m_paths]))] s.heap.size = A at hD hX ⊢
  have hA : ∀ q : Nat, s.heap.size ≤ q → A q := fun q h => by rw [← hAe]; exact Or.inr h
  have hS : va_S A s.heap s.heap [] := va_S.rf
  have hl := lv_entry ([.ref h0, .int x]) (n := 5) (Nat.le_of_ble_eq_true rfl)
  rw [lg_entry_eq]
  generalize (lg_sl ([.ref h0, .int x]) ++ List.replicate (5 - (lg_sl ([.ref h0, .int x])).length) Slot.unset).toArray = ls at hl ⊢
  have hl : lv_has ls 5 [(0, .ref h0), (1, .int x)] := hl
  have hP : va_P D vwCl [(h0, .inr (9, [.ref m_tape, .int s_tapeSize, .int s_thrown, .ref m_rule, .ref m_rules, .int s_stairs, .ref m_stair, .int s_readStairs, .int s_fault, .int s_faultPlace, .int s_wide, .int s_tall, .ref m_low, .ref m_high, .ref m_crack, .int 0, .ref m_weight, .ref m_fire, .ref m_crowd, .ref m_state, .ref m_where, .int s_hours, .int s_fees, .int s_looks, .ref m_words, .int s_end, .int s_next, .int s_kind, .int s_which, .int s_place, .int s_read, .ref m_told, .ref m_breaks, .ref m_row, .ref m_tried, .ref m_steps, .ref m_paths]))] s.heap := hP
  refine lv_iconst (v := 0) hx hb dX10_fires_0 (by decide) ?_
  refine lv_istore_n (lv' := [(2, .int 0), (0, .ref h0), (1, .int x)]) hx hb dX10_fires_1 rfl hl (by decide) rfl (fun ls hl => ?_)
  refine lv_iconst (v := 0) hx hb dX10_fires_2 (by decide) ?_
  refine lv_istore_n (lv' := [(3, .int 0), (2, .int 0), (0, .ref h0), (1, .int x)]) hx hb dX10_fires_3 rfl hl (by decide) rfl (fun ls hl => ?_)
  refine lv_iload_n hx hb dX10_fires_4 rfl (lv_at hl 0 rfl) ?_
  refine lv_aload_n hx hb dX10_fires_5 rfl (lv_at hl 2 rfl) ?_
  refine va_get (D := D) (ci := 9) (v := .int 0) (C := RX10) (T := TX10) (N := 37) hx hb hts inG_X10 hown hK hP 0 rfl rfl 15 (by decide) (hts _ kw_4_210) (fun _ h9 => h9) rfl dX10_fires_6 ?_
  refine lv_icmp_ge (tgt := 110) hx hb dX10_fires_9 (by decide) (fun c_1 => ?_) (fun c_1 => absurd c_1 (by decide))
  refine lv_iload_n hx hb dX10_fires_110 rfl (lv_at hl 1 rfl) ?_
  have hP9 := hP.sub (ws' := [(h0, .inr (9, [.ref m_tape, .int s_tapeSize, .int s_thrown, .ref m_rule, .ref m_rules, .int s_stairs, .ref m_stair, .int s_readStairs, .int s_fault, .int s_faultPlace, .int s_wide, .int s_tall, .ref m_low, .ref m_high, .ref m_crack, .int 0, .ref m_weight, .ref m_fire, .ref m_crowd, .ref m_state, .ref m_where, .int s_hours, .int s_fees, .int s_looks, .ref m_words, .int s_end, .int s_next, .int s_kind, .int s_which, .int s_place, .int s_read, .ref m_told, .ref m_breaks, .ref m_row, .ref m_tried, .ref m_steps, .ref m_paths]))]) [0] rfl
  have hD9 := hD.sub (ws' := [(h0, .inr (9, [.ref m_tape, .int s_tapeSize, .int s_thrown, .ref m_rule, .ref m_rules, .int s_stairs, .ref m_stair, .int s_readStairs, .int s_fault, .int s_faultPlace, .int s_wide, .int s_tall, .ref m_low, .ref m_high, .ref m_crack, .int 0, .ref m_weight, .ref m_fire, .ref m_crowd, .ref m_state, .ref m_where, .int s_hours, .int s_fees, .int s_looks, .ref m_words, .int s_end, .int s_next, .int s_kind, .int s_which, .int s_place, .int s_read, .ref m_told, .ref m_breaks, .ref m_row, .ref m_tried, .ref m_steps, .ref m_paths]))]) [0] (by decide) rfl
  have hK9 := hK.sub (tys' := []) [] rfl
  refine W.widen (k := 0) (n := 0) (by decide) (by decide) ?_
  exact W.iret (v := 0) hx hb hr (fun t ht hW => ⟨⟨0, (), rfl, rfl, by rw [ht]; exact hP9, va_K.moved hW.alike hK9, hD9⟩, hS.F ht⟩) hS.2.2 dX10_fires_111
theorem dX10_boothAt_0 : decode cX10_boothAt 0 = .ok (.iconst 0, 1) := by decide +kernel
theorem dX10_boothAt_1 : decode cX10_boothAt 1 = .ok (.istore_n 2, 1) := by decide +kernel
theorem dX10_boothAt_2 : decode cX10_boothAt 2 = .ok (.iload_n 2, 1) := by decide +kernel
theorem dX10_boothAt_3 : decode cX10_boothAt 3 = .ok (.aload_n 0, 1) := by decide +kernel
theorem dX10_boothAt_4 : decode cX10_boothAt 4 = .ok (.getfield 146, 3) := by decide +kernel
theorem dX10_boothAt_7 : decode cX10_boothAt 7 = .ok (.if_icmp .ge 31, 3) := by decide +kernel
theorem dX10_boothAt_38 : decode cX10_boothAt 38 = .ok (.iconst (-1), 1) := by decide +kernel
theorem dX10_boothAt_39 : decode cX10_boothAt 39 = .ok (.ireturn, 1) := by decide +kernel
set_option maxHeartbeats 4000000 in
set_option maxRecDepth 100000 in
theorem m_boothAt0 (l : Launch) (D : va_G) (h0 : Nat) (m_tape : Nat) (m_rule : Nat) (m_rules : Nat) (m_stair : Nat) (m_low : Nat) (m_high : Nat) (m_crack : Nat) (m_weight : Nat) (m_fire : Nat) (m_crowd : Nat) (m_state : Nat) (m_where : Nat) (m_words : Nat) (m_told : Nat) (m_breaks : Nat) (m_row : Nat) (m_tried : Nat) (m_steps : Nat) (m_paths : Nat) (s_tapeSize : Int32) (s_thrown : Int32) (s_stairs : Int32) (s_readStairs : Int32) (s_fault : Int32) (s_faultPlace : Int32) (s_wide : Int32) (s_tall : Int32) (s_hours : Int32) (s_fees : Int32) (s_looks : Int32) (s_end : Int32) (s_next : Int32) (s_kind : Int32) (s_which : Int32) (s_place : Int32) (s_read : Int32) (x : Int32) : cI l yX10_boothAt (.code yX10_boothAt cX10_boothAt 3 (some .int)) ({ frames := 0, cells := 0, slots := 0, locals := 0 }) D [] [(h0, .inr (9, [.ref m_tape, .int s_tapeSize, .int s_thrown, .ref m_rule, .ref m_rules, .int s_stairs, .ref m_stair, .int s_readStairs, .int s_fault, .int s_faultPlace, .int s_wide, .int s_tall, .ref m_low, .ref m_high, .ref m_crack, .int 0, .ref m_weight, .ref m_fire, .ref m_crowd, .ref m_state, .ref m_where, .int s_hours, .int s_fees, .int s_looks, .ref m_words, .int s_end, .int s_next, .int s_kind, .int s_which, .int s_place, .int s_read, .ref m_told, .ref m_breaks, .ref m_row, .ref m_tried, .ref m_steps, .ref m_paths]))] xT [.ref h0, .int x] (S := Unit) (fun r _ => r = (-1)) (fun _ => []) (fun _ => [(h0, .inr (9, [.ref m_tape, .int s_tapeSize, .int s_thrown, .ref m_rule, .ref m_rules, .int s_stairs, .ref m_stair, .int s_readStairs, .int s_fault, .int s_faultPlace, .int s_wide, .int s_tall, .ref m_low, .ref m_high, .ref m_crack, .int 0, .ref m_weight, .ref m_fire, .ref m_crowd, .ref m_state, .ref m_where, .int s_hours, .int s_fees, .int s_looks, .ref m_words, .int s_end, .int s_next, .int s_kind, .int s_which, .int s_place, .int s_read, .ref m_told, .ref m_breaks, .ref m_row, .ref m_tried, .ref m_steps, .ref m_paths]))]) := by
  intro sz
  refine Met.ofW (cc := cX10_boothAt) (maxL := 3) (ret := (some .int)) (by decide) rfl ?_
  intro p e s m args below meth c s₁ B hml hv
  obtain ⟨rfl, hsz, hP, hK, hD0, hX⟩ := hv
  have hx := B.exec
  have hb := B.bytes
  have hr := B.returns
  have hts0 := atoms_spec (ws := .code yX10_boothAt cX10_boothAt 3 (some .int) :: gw) B.pre
  have hts := fun (w : Cond) (h : w ∈ gw) => hts0 w (List.mem_cons_of_mem _ h)
  have hown : s.vm.findClass RX10 = some m.cls := findClass_of_methodNamed B.named
  have hlocks := B.notSynchronized
  have F : mFix p s m _ c cX10_boothAt 3 RX10 := ⟨hx, hb, hml, hown, hts⟩
  subst hsz
  have hD := hD0.self (sz := s.heap.size)
  generalize hAe : va_A [(h0, .inr (9, [.ref m_tape, .int s_tapeSize, .int s_thrown, .ref m_rule, .ref m_rules, .int s_stairs, .ref m_stair, .int s_readStairs, .int s_fault, .int s_faultPlace, .int s_wide, .int s_tall, .ref m_low, .ref m_high, .ref m_crack, .int 0, .ref m_weight, .ref m_fire, .ref m_crowd, .ref m_state, .ref m_where, .int s_hours, .int s_fees, .int s_looks, .ref m_words, .int s_end, .int s_next, .int s_kind, .int s_which, .int s_place, .int s_read, .ref m_told, .ref m_breaks, .ref m_row, .ref m_tried, .ref m_steps, .ref m_paths]))] s.heap.size = A at hD hX ⊢
  have hA : ∀ q : Nat, s.heap.size ≤ q → A q := fun q h => by rw [← hAe]; exact Or.inr h
  have hS : va_S A s.heap s.heap [] := va_S.rf
  have hl := lv_entry ([.ref h0, .int x]) (n := 3) (Nat.le_of_ble_eq_true rfl)
  rw [lg_entry_eq]
  generalize (lg_sl ([.ref h0, .int x]) ++ List.replicate (3 - (lg_sl ([.ref h0, .int x])).length) Slot.unset).toArray = ls at hl ⊢
  have hl : lv_has ls 3 [(0, .ref h0), (1, .int x)] := hl
  have hP : va_P D vwCl [(h0, .inr (9, [.ref m_tape, .int s_tapeSize, .int s_thrown, .ref m_rule, .ref m_rules, .int s_stairs, .ref m_stair, .int s_readStairs, .int s_fault, .int s_faultPlace, .int s_wide, .int s_tall, .ref m_low, .ref m_high, .ref m_crack, .int 0, .ref m_weight, .ref m_fire, .ref m_crowd, .ref m_state, .ref m_where, .int s_hours, .int s_fees, .int s_looks, .ref m_words, .int s_end, .int s_next, .int s_kind, .int s_which, .int s_place, .int s_read, .ref m_told, .ref m_breaks, .ref m_row, .ref m_tried, .ref m_steps, .ref m_paths]))] s.heap := hP
  refine lv_iconst (v := 0) hx hb dX10_boothAt_0 (by decide) ?_
  refine lv_istore_n (lv' := [(2, .int 0), (0, .ref h0), (1, .int x)]) hx hb dX10_boothAt_1 rfl hl (by decide) rfl (fun ls hl => ?_)
  refine lv_iload_n hx hb dX10_boothAt_2 rfl (lv_at hl 0 rfl) ?_
  refine lv_aload_n hx hb dX10_boothAt_3 rfl (lv_at hl 1 rfl) ?_
  refine va_get (D := D) (ci := 9) (v := .int 0) (C := RX10) (T := TX10) (N := 37) hx hb hts inG_X10 hown hK hP 0 rfl rfl 15 (by decide) (hts _ kw_4_210) (fun _ h9 => h9) rfl dX10_boothAt_4 ?_
  refine lv_icmp_ge (tgt := 38) hx hb dX10_boothAt_7 (by decide) (fun c_1 => ?_) (fun c_1 => absurd c_1 (by decide))
  refine lv_iconst (v := -1) hx hb dX10_boothAt_38 (by decide) ?_
  have hP9 := hP.sub (ws' := [(h0, .inr (9, [.ref m_tape, .int s_tapeSize, .int s_thrown, .ref m_rule, .ref m_rules, .int s_stairs, .ref m_stair, .int s_readStairs, .int s_fault, .int s_faultPlace, .int s_wide, .int s_tall, .ref m_low, .ref m_high, .ref m_crack, .int 0, .ref m_weight, .ref m_fire, .ref m_crowd, .ref m_state, .ref m_where, .int s_hours, .int s_fees, .int s_looks, .ref m_words, .int s_end, .int s_next, .int s_kind, .int s_which, .int s_place, .int s_read, .ref m_told, .ref m_breaks, .ref m_row, .ref m_tried, .ref m_steps, .ref m_paths]))]) [0] rfl
  have hD9 := hD.sub (ws' := [(h0, .inr (9, [.ref m_tape, .int s_tapeSize, .int s_thrown, .ref m_rule, .ref m_rules, .int s_stairs, .ref m_stair, .int s_readStairs, .int s_fault, .int s_faultPlace, .int s_wide, .int s_tall, .ref m_low, .ref m_high, .ref m_crack, .int 0, .ref m_weight, .ref m_fire, .ref m_crowd, .ref m_state, .ref m_where, .int s_hours, .int s_fees, .int s_looks, .ref m_words, .int s_end, .int s_next, .int s_kind, .int s_which, .int s_place, .int s_read, .ref m_told, .ref m_breaks, .ref m_row, .ref m_tried, .ref m_steps, .ref m_paths]))]) [0] (by decide) rfl
  have hK9 := hK.sub (tys' := []) [] rfl
  refine W.widen (k := 0) (n := 0) (by decide) (by decide) ?_
  exact W.iret (v := (-1)) hx hb hr (fun t ht hW => ⟨⟨((-1)), (), rfl, rfl, by rw [ht]; exact hP9, va_K.moved hW.alike hK9, hD9⟩, hS.F ht⟩) hS.2.2 dX10_boothAt_39
theorem dX10_bears_0 : decode cX10_bears 0 = .ok (.aload_n 0, 1) := by decide +kernel
theorem dX10_bears_1 : decode cX10_bears 1 = .ok (.getfield 32, 3) := by decide +kernel
theorem dX10_bears_4 : decode cX10_bears 4 = .ok (.iload_n 1, 1) := by decide +kernel
theorem dX10_bears_5 : decode cX10_bears 5 = .ok (.iaload, 1) := by decide +kernel
theorem dX10_bears_6 : decode cX10_bears 6 = .ok (.aload_n 0, 1) := by decide +kernel
theorem dX10_bears_7 : decode cX10_bears 7 = .ok (.getfield 32, 3) := by decide +kernel
theorem dX10_bears_10 : decode cX10_bears 10 = .ok (.iload_n 1, 1) := by decide +kernel
theorem dX10_bears_11 : decode cX10_bears 11 = .ok (.iaload, 1) := by decide +kernel
theorem dX10_bears_12 : decode cX10_bears 12 = .ok (.imul, 1) := by decide +kernel
theorem dX10_bears_13 : decode cX10_bears 13 = .ok (.aload_n 0, 1) := by decide +kernel
theorem dX10_bears_14 : decode cX10_bears 14 = .ok (.getfield 13, 3) := by decide +kernel
theorem dX10_bears_17 : decode cX10_bears 17 = .ok (.iconst 0, 1) := by decide +kernel
theorem dX10_bears_18 : decode cX10_bears 18 = .ok (.iaload, 1) := by decide +kernel
theorem dX10_bears_19 : decode cX10_bears 19 = .ok (.imul, 1) := by decide +kernel
theorem dX10_bears_20 : decode cX10_bears 20 = .ok (.bipush 100, 2) := by decide +kernel
theorem dX10_bears_22 : decode cX10_bears 22 = .ok (.idiv, 1) := by decide +kernel
theorem dX10_bears_23 : decode cX10_bears 23 = .ok (.ireturn, 1) := by decide +kernel
set_option maxHeartbeats 4000000 in
set_option maxRecDepth 100000 in
theorem m_bears (l : Launch) (D : va_G) (h0 : Nat) (m_tape : Nat) (m_rule : Nat) (m_rules : Nat) (m_stair : Nat) (m_low : Nat) (m_high : Nat) (m_crack : Nat) (m_weight : Nat) (m_fire : Nat) (m_crowd : Nat) (m_state : Nat) (m_where : Nat) (m_words : Nat) (m_told : Nat) (m_breaks : Nat) (m_row : Nat) (m_tried : Nat) (m_steps : Nat) (m_paths : Nat) (y_low : ClassId) (y_rule : ClassId) (f_low : Nat → Int32) (f_rule : Nat → Int32) (s_tapeSize : Int32) (s_thrown : Int32) (s_stairs : Int32) (s_readStairs : Int32) (s_fault : Int32) (s_faultPlace : Int32) (s_wide : Int32) (s_tall : Int32) (s_booths : Int32) (s_hours : Int32) (s_fees : Int32) (s_looks : Int32) (s_end : Int32) (s_next : Int32) (s_kind : Int32) (s_which : Int32) (s_place : Int32) (s_read : Int32) (j : Nat) (hj : j < 100) : cI l yX10_bears (.code yX10_bears cX10_bears 2 (some .int)) ({ frames := 0, cells := 0, slots := 0, locals := 0 }) D [(y_low, .int), (y_rule, .int)] [(h0, .inr (9, [.ref m_tape, .int s_tapeSize, .int s_thrown, .ref m_rule, .ref m_rules, .int s_stairs, .ref m_stair, .int s_readStairs, .int s_fault, .int s_faultPlace, .int s_wide, .int s_tall, .ref m_low, .ref m_high, .ref m_crack, .int s_booths, .ref m_weight, .ref m_fire, .ref m_crowd, .ref m_state, .ref m_where, .int s_hours, .int s_fees, .int s_looks, .ref m_words, .int s_end, .int s_next, .int s_kind, .int s_which, .int s_place, .int s_read, .ref m_told, .ref m_breaks, .ref m_row, .ref m_tried, .ref m_steps, .ref m_paths])), (m_low, .inl (y_low, 100, .inl f_low)), (m_rule, .inl (y_rule, 8, .inl f_rule))] xT [.ref h0, .int (nI j)] (S := Unit) (fun r _ => r = f_low j * f_low j * f_rule 0 / 100) (fun _ => []) (fun _ => [(h0, .inr (9, [.ref m_tape, .int s_tapeSize, .int s_thrown, .ref m_rule, .ref m_rules, .int s_stairs, .ref m_stair, .int s_readStairs, .int s_fault, .int s_faultPlace, .int s_wide, .int s_tall, .ref m_low, .ref m_high, .ref m_crack, .int s_booths, .ref m_weight, .ref m_fire, .ref m_crowd, .ref m_state, .ref m_where, .int s_hours, .int s_fees, .int s_looks, .ref m_words, .int s_end, .int s_next, .int s_kind, .int s_which, .int s_place, .int s_read, .ref m_told, .ref m_breaks, .ref m_row, .ref m_tried, .ref m_steps, .ref m_paths])), (m_low, .inl (y_low, 100, .inl f_low)), (m_rule, .inl (y_rule, 8, .inl f_rule))]) := by
  intro sz
  refine Met.ofW (cc := cX10_bears) (maxL := 2) (ret := (some .int)) (by decide) rfl ?_
  intro p e s m args below meth c s₁ B hml hv
  obtain ⟨rfl, hsz, hP, hK, hD0, hX⟩ := hv
  have hx := B.exec
  have hb := B.bytes
  have hr := B.returns
  have hts0 := atoms_spec (ws := .code yX10_bears cX10_bears 2 (some .int) :: gw) B.pre
  have hts := fun (w : Cond) (h : w ∈ gw) => hts0 w (List.mem_cons_of_mem _ h)
  have hown : s.vm.findClass RX10 = some m.cls := findClass_of_methodNamed B.named
  have hlocks := B.notSynchronized
  have F : mFix p s m _ c cX10_bears 2 RX10 := ⟨hx, hb, hml, hown, hts⟩
  subst hsz
  have hD := hD0.self (sz := s.heap.size)
  generalize hAe : va_A [(h0, .inr (9, [.ref m_tape, .int s_tapeSize, .int s_thrown, .ref m_rule, .ref m_rules, .int s_stairs, .ref m_stair, .int s_readStairs, .int s_fault, .int s_faultPlace, .int s_wide, .int s_tall, .ref m_low, .ref m_high, .ref m_crack, .int s_booths, .ref m_weight, .ref m_fire, .ref m_crowd, .ref m_state, .ref m_where, .int s_hours, .int s_fees, .int s_looks, .ref m_words, .int s_end, .int s_next, .int s_kind, .int s_which, .int s_place, .int s_read, .ref m_told, .ref m_breaks, .ref m_row, .ref m_tried, .ref m_steps, .ref m_paths])), (m_low, .inl (y_low, 100, .inl f_low)), (m_rule, .inl (y_rule, 8, .inl f_rule))] s.heap.size = A at hD hX ⊢
  have hA : ∀ q : Nat, s.heap.size ≤ q → A q := fun q h => by rw [← hAe]; exact Or.inr h
  have hS : va_S A s.heap s.heap [] := va_S.rf
  have hl := lv_entry ([.ref h0, .int (nI j)]) (n := 2) (Nat.le_of_ble_eq_true rfl)
  rw [lg_entry_eq]
  generalize (lg_sl ([.ref h0, .int (nI j)]) ++ List.replicate (2 - (lg_sl ([.ref h0, .int (nI j)])).length) Slot.unset).toArray = ls at hl ⊢
  have hl : lv_has ls 2 [(0, .ref h0), (1, .int (nI j))] := hl
  have hP : va_P D vwCl [(h0, .inr (9, [.ref m_tape, .int s_tapeSize, .int s_thrown, .ref m_rule, .ref m_rules, .int s_stairs, .ref m_stair, .int s_readStairs, .int s_fault, .int s_faultPlace, .int s_wide, .int s_tall, .ref m_low, .ref m_high, .ref m_crack, .int s_booths, .ref m_weight, .ref m_fire, .ref m_crowd, .ref m_state, .ref m_where, .int s_hours, .int s_fees, .int s_looks, .ref m_words, .int s_end, .int s_next, .int s_kind, .int s_which, .int s_place, .int s_read, .ref m_told, .ref m_breaks, .ref m_row, .ref m_tried, .ref m_steps, .ref m_paths])), (m_low, .inl (y_low, 100, .inl f_low)), (m_rule, .inl (y_rule, 8, .inl f_rule))] s.heap := hP
  refine lv_aload_n hx hb dX10_bears_0 rfl (lv_at hl 0 rfl) ?_
  refine va_get (D := D) (ci := 9) (v := .ref m_low) (C := RX10) (T := TX10) (N := 37) hx hb hts inG_X10 hown hK hP 0 rfl rfl 12 (by decide) (hts _ kw_4_207) (fun _ h9 => h9) rfl dX10_bears_1 ?_
  refine lv_iload_n hx hb dX10_bears_4 rfl (lv_at hl 1 rfl) ?_
  refine m_iald hx hb hK hP 1 0 rfl rfl j rfl (by omega) (by decide) dX10_bears_5 ?_
  refine lv_topi (fun v_1 ev_1 => ?_)
  refine lv_aload_n hx hb dX10_bears_6 rfl (lv_at hl 0 rfl) ?_
  refine va_get (D := D) (ci := 9) (v := .ref m_low) (C := RX10) (T := TX10) (N := 37) hx hb hts inG_X10 hown hK hP 0 rfl rfl 12 (by decide) (hts _ kw_4_207) (fun _ h9 => h9) rfl dX10_bears_7 ?_
  refine lv_iload_n hx hb dX10_bears_10 rfl (lv_at hl 1 rfl) ?_
  refine m_iald hx hb hK hP 1 0 rfl rfl j rfl (by omega) (by decide) dX10_bears_11 ?_
  refine lv_topi (fun v_2 ev_2 => ?_)
  refine lv_imul hx hb dX10_bears_12 ?_
  refine lv_topi (fun z_3 ez_3 => ?_)
  refine lv_aload_n hx hb dX10_bears_13 rfl (lv_at hl 0 rfl) ?_
  refine va_get (D := D) (ci := 9) (v := .ref m_rule) (C := RX10) (T := TX10) (N := 37) hx hb hts inG_X10 hown hK hP 0 rfl rfl 3 (by decide) (hts _ kw_4_198) (fun _ h9 => h9) rfl dX10_bears_14 ?_
  refine lv_iconst (v := 0) hx hb dX10_bears_17 (by decide) ?_
  refine m_iald hx hb hK hP 2 1 rfl rfl 0 rfl (by decide) (by decide) dX10_bears_18 ?_
  refine lv_topi (fun v_4 ev_4 => ?_)
  refine lv_imul hx hb dX10_bears_19 ?_
  refine lv_topi (fun z_5 ez_5 => ?_)
  refine lv_bipush (v := 100) hx hb dX10_bears_20 (by decide) ?_
  refine lv_idiv hx hb dX10_bears_22 (by decide) ?_
  refine lv_topi (fun z_6 ez_6 => ?_)
  have hP9 := hP.sub (ws' := [(h0, .inr (9, [.ref m_tape, .int s_tapeSize, .int s_thrown, .ref m_rule, .ref m_rules, .int s_stairs, .ref m_stair, .int s_readStairs, .int s_fault, .int s_faultPlace, .int s_wide, .int s_tall, .ref m_low, .ref m_high, .ref m_crack, .int s_booths, .ref m_weight, .ref m_fire, .ref m_crowd, .ref m_state, .ref m_where, .int s_hours, .int s_fees, .int s_looks, .ref m_words, .int s_end, .int s_next, .int s_kind, .int s_which, .int s_place, .int s_read, .ref m_told, .ref m_breaks, .ref m_row, .ref m_tried, .ref m_steps, .ref m_paths])), (m_low, .inl (y_low, 100, .inl f_low)), (m_rule, .inl (y_rule, 8, .inl f_rule))]) [0, 1, 2] rfl
  have hD9 := hD.sub (ws' := [(h0, .inr (9, [.ref m_tape, .int s_tapeSize, .int s_thrown, .ref m_rule, .ref m_rules, .int s_stairs, .ref m_stair, .int s_readStairs, .int s_fault, .int s_faultPlace, .int s_wide, .int s_tall, .ref m_low, .ref m_high, .ref m_crack, .int s_booths, .ref m_weight, .ref m_fire, .ref m_crowd, .ref m_state, .ref m_where, .int s_hours, .int s_fees, .int s_looks, .ref m_words, .int s_end, .int s_next, .int s_kind, .int s_which, .int s_place, .int s_read, .ref m_told, .ref m_breaks, .ref m_row, .ref m_tried, .ref m_steps, .ref m_paths])), (m_low, .inl (y_low, 100, .inl f_low)), (m_rule, .inl (y_rule, 8, .inl f_rule))]) [0, 1, 2] (by decide) rfl
  have hK9 := hK.sub (tys' := []) [] rfl
  refine W.widen (k := 0) (n := 0) (by decide) (by decide) ?_
  exact W.iret (v := z_6) hx hb hr (fun t ht hW => ⟨⟨z_6, (), rfl, by simp only [ev_1, ev_2, ev_4, ez_3, ez_5, ez_6], by rw [ht]; exact hP9, va_K.moved hW.alike hK9, hD9⟩, hS.F ht⟩) hS.2.2 dX10_bears_23
theorem dX10_within_0 : decode cX10_within 0 = .ok (.iload_n 0, 1) := by decide +kernel
theorem dX10_within_1 : decode cX10_within 1 = .ok (.ifCond .ge 7, 3) := by decide +kernel
theorem dX10_within_8 : decode cX10_within 8 = .ok (.iload_n 0, 1) := by decide +kernel
theorem dX10_within_9 : decode cX10_within 9 = .ok (.bipush 99, 2) := by decide +kernel
theorem dX10_within_11 : decode cX10_within 11 = .ok (.if_icmp .le 8, 3) := by decide +kernel
theorem dX10_within_19 : decode cX10_within 19 = .ok (.iload_n 0, 1) := by decide +kernel
theorem dX10_within_20 : decode cX10_within 20 = .ok (.ireturn, 1) := by decide +kernel
theorem dX10_within_14 : decode cX10_within 14 = .ok (.bipush 99, 2) := by decide +kernel
theorem dX10_within_16 : decode cX10_within 16 = .ok (.goto 4, 3) := by decide +kernel
theorem dX10_within_4 : decode cX10_within 4 = .ok (.iconst 0, 1) := by decide +kernel
theorem dX10_within_5 : decode cX10_within 5 = .ok (.goto 15, 3) := by decide +kernel
set_option maxHeartbeats 4000000 in
set_option maxRecDepth 100000 in
theorem m_within (l : Launch) (D : va_G) (t1 : Int32) : cI l yX10_within (.code yX10_within cX10_within 1 (some .int)) ({ frames := 0, cells := 0, slots := 0, locals := 0 }) D [] [] xT [.int t1] (S := Unit) (fun r _ => r = r) (fun _ => []) (fun _ => []) := by
  intro sz
  refine Met.ofW (cc := cX10_within) (maxL := 1) (ret := (some .int)) (by decide) rfl ?_
  intro p e s m args below meth c s₁ B hml hv
  obtain ⟨rfl, hsz, hP, hK, hD0, hX⟩ := hv
  have hx := B.exec
  have hb := B.bytes
  have hr := B.returns
  have hts0 := atoms_spec (ws := .code yX10_within cX10_within 1 (some .int) :: gw) B.pre
  have hts := fun (w : Cond) (h : w ∈ gw) => hts0 w (List.mem_cons_of_mem _ h)
  have hown : s.vm.findClass RX10 = some m.cls := findClass_of_methodNamed B.named
  have hlocks := B.notSynchronized
  have F : mFix p s m _ c cX10_within 1 RX10 := ⟨hx, hb, hml, hown, hts⟩
  subst hsz
  have hD := hD0.self (sz := s.heap.size)
  generalize hAe : va_A [] s.heap.size = A at hD hX ⊢
  have hA : ∀ q : Nat, s.heap.size ≤ q → A q := fun q h => by rw [← hAe]; exact Or.inr h
  have hS : va_S A s.heap s.heap [] := va_S.rf
  have hl := lv_entry ([.int t1]) (n := 1) (Nat.le_of_ble_eq_true rfl)
  rw [lg_entry_eq]
  generalize (lg_sl ([.int t1]) ++ List.replicate (1 - (lg_sl ([.int t1])).length) Slot.unset).toArray = ls at hl ⊢
  have hl : lv_has ls 1 [(0, .int t1)] := hl
  have hP : va_P D vwCl [] s.heap := hP
  refine lv_iload_n hx hb dX10_within_0 rfl (lv_at hl 0 rfl) ?_
  refine lv_if_ge (tgt := 8) hx hb dX10_within_1 (by decide) (fun c_1 => ?_) (fun c_1 => ?_)
  · skip
    have c_1 := Int32.not_lt.mpr c_1
    refine lv_iload_n hx hb dX10_within_8 rfl (lv_at hl 0 rfl) ?_
    refine lv_bipush (v := 99) hx hb dX10_within_9 (by decide) ?_
    refine lv_icmp_le (tgt := 19) hx hb dX10_within_11 (by decide) (fun c_2 => ?_) (fun c_2 => ?_)
    · skip
      have c_2 := Int32.not_lt.mpr c_2
      refine lv_iload_n hx hb dX10_within_19 rfl (lv_at hl 0 rfl) ?_
      have hP9 := hP.sub (ws' := []) [] rfl
      have hD9 := hD.sub (ws' := []) [] (by decide) rfl
      have hK9 := hK.sub (tys' := []) [] rfl
      refine W.widen (k := 0) (n := 0) (by decide) (by decide) ?_
      exact W.iret (v := t1) hx hb hr (fun t ht hW => ⟨⟨t1, (), rfl, rfl, by rw [ht]; exact hP9, va_K.moved hW.alike hK9, hD9⟩, hS.F ht⟩) hS.2.2 dX10_within_20
    · skip
      have c_2 := Int32.not_le.mp c_2
      refine lv_bipush (v := 99) hx hb dX10_within_14 (by decide) ?_
      refine lv_goto (tgt := 20) hx hb dX10_within_16 (by decide) ?_
      have hP9 := hP.sub (ws' := []) [] rfl
      have hD9 := hD.sub (ws' := []) [] (by decide) rfl
      have hK9 := hK.sub (tys' := []) [] rfl
      refine W.widen (k := 0) (n := 0) (by decide) (by decide) ?_
      exact W.iret (v := 99) hx hb hr (fun t ht hW => ⟨⟨99, (), rfl, rfl, by rw [ht]; exact hP9, va_K.moved hW.alike hK9, hD9⟩, hS.F ht⟩) hS.2.2 dX10_within_20
  · skip
    have c_1 := Int32.not_le.mp c_1
    refine lv_iconst (v := 0) hx hb dX10_within_4 (by decide) ?_
    refine lv_goto (tgt := 20) hx hb dX10_within_5 (by decide) ?_
    have hP9 := hP.sub (ws' := []) [] rfl
    have hD9 := hD.sub (ws' := []) [] (by decide) rfl
    have hK9 := hK.sub (tys' := []) [] rfl
    refine W.widen (k := 0) (n := 0) (by decide) (by decide) ?_
    exact W.iret (v := 0) hx hb hr (fun t ht hW => ⟨⟨0, (), rfl, rfl, by rw [ht]; exact hP9, va_K.moved hW.alike hK9, hD9⟩, hS.F ht⟩) hS.2.2 dX10_within_20
theorem dX10_fails_0 : decode cX10_fails 0 = .ok (.aload_n 0, 1) := by decide +kernel
theorem dX10_fails_1 : decode cX10_fails 1 = .ok (.iload_n 1, 1) := by decide +kernel
theorem kw_4_197 : Cond.fieldLink RX10 78 "IceFairModel" "thrown" "I" ∈ gw := gw_t4 (List.mem_of_getElem? (i := 197) (by decide +kernel)) (by decide +kernel)
theorem dX10_fails_2 : decode cX10_fails 2 = .ok (.putfield 78, 3) := by decide +kernel
theorem dX10_fails_5 : decode cX10_fails 5 = .ok (.iconst 0, 1) := by decide +kernel
theorem dX10_fails_6 : decode cX10_fails 6 = .ok (.ireturn, 1) := by decide +kernel
set_option maxHeartbeats 4000000 in
set_option maxRecDepth 100000 in
theorem m_fails (l : Launch) (D : va_G) (h0 : Nat) (m_tape : Nat) (m_rule : Nat) (m_rules : Nat) (m_stair : Nat) (m_low : Nat) (m_high : Nat) (m_crack : Nat) (m_weight : Nat) (m_fire : Nat) (m_crowd : Nat) (m_state : Nat) (m_where : Nat) (m_words : Nat) (m_told : Nat) (m_breaks : Nat) (m_row : Nat) (m_tried : Nat) (m_steps : Nat) (m_paths : Nat) (s_tapeSize : Int32) (s_thrown : Int32) (s_stairs : Int32) (s_readStairs : Int32) (s_fault : Int32) (s_faultPlace : Int32) (s_wide : Int32) (s_tall : Int32) (s_booths : Int32) (s_hours : Int32) (s_fees : Int32) (s_looks : Int32) (s_end : Int32) (s_next : Int32) (s_kind : Int32) (s_which : Int32) (s_place : Int32) (s_read : Int32) (x : Int32) : cI l yX10_fails (.code yX10_fails cX10_fails 2 (some .int)) ({ frames := 0, cells := 0, slots := 0, locals := 0 }) D [] [(h0, .inr (9, [.ref m_tape, .int s_tapeSize, .int s_thrown, .ref m_rule, .ref m_rules, .int s_stairs, .ref m_stair, .int s_readStairs, .int s_fault, .int s_faultPlace, .int s_wide, .int s_tall, .ref m_low, .ref m_high, .ref m_crack, .int s_booths, .ref m_weight, .ref m_fire, .ref m_crowd, .ref m_state, .ref m_where, .int s_hours, .int s_fees, .int s_looks, .ref m_words, .int s_end, .int s_next, .int s_kind, .int s_which, .int s_place, .int s_read, .ref m_told, .ref m_breaks, .ref m_row, .ref m_tried, .ref m_steps, .ref m_paths]))] xT [.ref h0, .int x] (S := Unit) (fun r _ => r = 0) (fun _ => []) (fun _ => [(h0, .inr (9, [.ref m_tape, .int s_tapeSize, .int x, .ref m_rule, .ref m_rules, .int s_stairs, .ref m_stair, .int s_readStairs, .int s_fault, .int s_faultPlace, .int s_wide, .int s_tall, .ref m_low, .ref m_high, .ref m_crack, .int s_booths, .ref m_weight, .ref m_fire, .ref m_crowd, .ref m_state, .ref m_where, .int s_hours, .int s_fees, .int s_looks, .ref m_words, .int s_end, .int s_next, .int s_kind, .int s_which, .int s_place, .int s_read, .ref m_told, .ref m_breaks, .ref m_row, .ref m_tried, .ref m_steps, .ref m_paths]))]) := by
  intro sz
  refine Met.ofW (cc := cX10_fails) (maxL := 2) (ret := (some .int)) (by decide) rfl ?_
  intro p e s m args below meth c s₁ B hml hv
  obtain ⟨rfl, hsz, hP, hK, hD0, hX⟩ := hv
  have hx := B.exec
  have hb := B.bytes
  have hr := B.returns
  have hts0 := atoms_spec (ws := .code yX10_fails cX10_fails 2 (some .int) :: gw) B.pre
  have hts := fun (w : Cond) (h : w ∈ gw) => hts0 w (List.mem_cons_of_mem _ h)
  have hown : s.vm.findClass RX10 = some m.cls := findClass_of_methodNamed B.named
  have hlocks := B.notSynchronized
  have F : mFix p s m _ c cX10_fails 2 RX10 := ⟨hx, hb, hml, hown, hts⟩
  subst hsz
  have hD := hD0.self (sz := s.heap.size)
  generalize hAe : va_A [(h0, .inr (9, [.ref m_tape, .int s_tapeSize, .int s_thrown, .ref m_rule, .ref m_rules, .int s_stairs, .ref m_stair, .int s_readStairs, .int s_fault, .int s_faultPlace, .int s_wide, .int s_tall, .ref m_low, .ref m_high, .ref m_crack, .int s_booths, .ref m_weight, .ref m_fire, .ref m_crowd, .ref m_state, .ref m_where, .int s_hours, .int s_fees, .int s_looks, .ref m_words, .int s_end, .int s_next, .int s_kind, .int s_which, .int s_place, .int s_read, .ref m_told, .ref m_breaks, .ref m_row, .ref m_tried, .ref m_steps, .ref m_paths]))] s.heap.size = A at hD hX ⊢
  have hA : ∀ q : Nat, s.heap.size ≤ q → A q := fun q h => by rw [← hAe]; exact Or.inr h
  have hS : va_S A s.heap s.heap [] := va_S.rf
  have hl := lv_entry ([.ref h0, .int x]) (n := 2) (Nat.le_of_ble_eq_true rfl)
  rw [lg_entry_eq]
  generalize (lg_sl ([.ref h0, .int x]) ++ List.replicate (2 - (lg_sl ([.ref h0, .int x])).length) Slot.unset).toArray = ls at hl ⊢
  have hl : lv_has ls 2 [(0, .ref h0), (1, .int x)] := hl
  have hP : va_P D vwCl [(h0, .inr (9, [.ref m_tape, .int s_tapeSize, .int s_thrown, .ref m_rule, .ref m_rules, .int s_stairs, .ref m_stair, .int s_readStairs, .int s_fault, .int s_faultPlace, .int s_wide, .int s_tall, .ref m_low, .ref m_high, .ref m_crack, .int s_booths, .ref m_weight, .ref m_fire, .ref m_crowd, .ref m_state, .ref m_where, .int s_hours, .int s_fees, .int s_looks, .ref m_words, .int s_end, .int s_next, .int s_kind, .int s_which, .int s_place, .int s_read, .ref m_told, .ref m_breaks, .ref m_row, .ref m_tried, .ref m_steps, .ref m_paths]))] s.heap := hP
  refine lv_aload_n hx hb dX10_fails_0 rfl (lv_at hl 0 rfl) ?_
  refine lv_iload_n hx hb dX10_fails_1 rfl (lv_at hl 1 rfl) ?_
  refine va_put (D := D) (ci := 9) (v := .int x) (ty := .int) (C := RX10) (T := TX10) (N := 37) hx hb hts inG_X10 tyX10 tyX10_ok nmX10 hown hK hP hD hS 0 rfl rfl 2 (by decide) (hts _ kw_4_197) (fun _ h9 => h9) rfl (by decide +kernel) rfl rfl (Nat.le_of_ble_eq_true rfl) dX10_fails_2 (fun H locs hP hD hS => ?_)
  have hP : va_P D vwCl [(h0, .inr (9, [.ref m_tape, .int s_tapeSize, .int x, .ref m_rule, .ref m_rules, .int s_stairs, .ref m_stair, .int s_readStairs, .int s_fault, .int s_faultPlace, .int s_wide, .int s_tall, .ref m_low, .ref m_high, .ref m_crack, .int s_booths, .ref m_weight, .ref m_fire, .ref m_crowd, .ref m_state, .ref m_where, .int s_hours, .int s_fees, .int s_looks, .ref m_words, .int s_end, .int s_next, .int s_kind, .int s_which, .int s_place, .int s_read, .ref m_told, .ref m_breaks, .ref m_row, .ref m_tried, .ref m_steps, .ref m_paths]))] H := hP
  have hD : va_D A [(h0, .inr (9, [.ref m_tape, .int s_tapeSize, .int x, .ref m_rule, .ref m_rules, .int s_stairs, .ref m_stair, .int s_readStairs, .int s_fault, .int s_faultPlace, .int s_wide, .int s_tall, .ref m_low, .ref m_high, .ref m_crack, .int s_booths, .ref m_weight, .ref m_fire, .ref m_crowd, .ref m_state, .ref m_where, .int s_hours, .int s_fees, .int s_looks, .ref m_words, .int s_end, .int s_next, .int s_kind, .int s_which, .int s_place, .int s_read, .ref m_told, .ref m_breaks, .ref m_row, .ref m_tried, .ref m_steps, .ref m_paths]))] := hD
  refine lv_iconst (v := 0) hx hb dX10_fails_5 (by decide) ?_
  have hP9 := hP.sub (ws' := [(h0, .inr (9, [.ref m_tape, .int s_tapeSize, .int x, .ref m_rule, .ref m_rules, .int s_stairs, .ref m_stair, .int s_readStairs, .int s_fault, .int s_faultPlace, .int s_wide, .int s_tall, .ref m_low, .ref m_high, .ref m_crack, .int s_booths, .ref m_weight, .ref m_fire, .ref m_crowd, .ref m_state, .ref m_where, .int s_hours, .int s_fees, .int s_looks, .ref m_words, .int s_end, .int s_next, .int s_kind, .int s_which, .int s_place, .int s_read, .ref m_told, .ref m_breaks, .ref m_row, .ref m_tried, .ref m_steps, .ref m_paths]))]) [0] rfl
  have hD9 := hD.sub (ws' := [(h0, .inr (9, [.ref m_tape, .int s_tapeSize, .int x, .ref m_rule, .ref m_rules, .int s_stairs, .ref m_stair, .int s_readStairs, .int s_fault, .int s_faultPlace, .int s_wide, .int s_tall, .ref m_low, .ref m_high, .ref m_crack, .int s_booths, .ref m_weight, .ref m_fire, .ref m_crowd, .ref m_state, .ref m_where, .int s_hours, .int s_fees, .int s_looks, .ref m_words, .int s_end, .int s_next, .int s_kind, .int s_which, .int s_place, .int s_read, .ref m_told, .ref m_breaks, .ref m_row, .ref m_tried, .ref m_steps, .ref m_paths]))]) [0] (by decide) rfl
  have hK9 := hK.sub (tys' := []) [] rfl
  refine W.widen (k := 0) (n := 0) (by decide) (by decide) ?_
  exact W.iret (v := 0) hx hb hr (fun t ht hW => ⟨⟨0, (), rfl, rfl, by rw [ht]; exact hP9, va_K.moved hW.alike hK9, hD9⟩, hS.F ht⟩) hS.2.2 dX10_fails_6
theorem dX10_thrown_0 : decode cX10_thrown 0 = .ok (.aload_n 0, 1) := by decide +kernel
theorem dX10_thrown_1 : decode cX10_thrown 1 = .ok (.getfield 78, 3) := by decide +kernel
theorem dX10_thrown_4 : decode cX10_thrown 4 = .ok (.ireturn, 1) := by decide +kernel
set_option maxHeartbeats 4000000 in
set_option maxRecDepth 100000 in
theorem m_thrown (l : Launch) (D : va_G) (h0 : Nat) (m_tape : Nat) (m_rule : Nat) (m_rules : Nat) (m_stair : Nat) (m_low : Nat) (m_high : Nat) (m_crack : Nat) (m_weight : Nat) (m_fire : Nat) (m_crowd : Nat) (m_state : Nat) (m_where : Nat) (m_words : Nat) (m_told : Nat) (m_breaks : Nat) (m_row : Nat) (m_tried : Nat) (m_steps : Nat) (m_paths : Nat) (s_tapeSize : Int32) (s_thrown : Int32) (s_stairs : Int32) (s_readStairs : Int32) (s_fault : Int32) (s_faultPlace : Int32) (s_wide : Int32) (s_tall : Int32) (s_booths : Int32) (s_hours : Int32) (s_fees : Int32) (s_looks : Int32) (s_end : Int32) (s_next : Int32) (s_kind : Int32) (s_which : Int32) (s_place : Int32) (s_read : Int32) : cI l yX10_thrown (.code yX10_thrown cX10_thrown 1 (some .int)) ({ frames := 0, cells := 0, slots := 0, locals := 0 }) D [] [(h0, .inr (9, [.ref m_tape, .int s_tapeSize, .int s_thrown, .ref m_rule, .ref m_rules, .int s_stairs, .ref m_stair, .int s_readStairs, .int s_fault, .int s_faultPlace, .int s_wide, .int s_tall, .ref m_low, .ref m_high, .ref m_crack, .int s_booths, .ref m_weight, .ref m_fire, .ref m_crowd, .ref m_state, .ref m_where, .int s_hours, .int s_fees, .int s_looks, .ref m_words, .int s_end, .int s_next, .int s_kind, .int s_which, .int s_place, .int s_read, .ref m_told, .ref m_breaks, .ref m_row, .ref m_tried, .ref m_steps, .ref m_paths]))] xT [.ref h0] (S := Unit) (fun r _ => r = s_thrown) (fun _ => []) (fun _ => [(h0, .inr (9, [.ref m_tape, .int s_tapeSize, .int s_thrown, .ref m_rule, .ref m_rules, .int s_stairs, .ref m_stair, .int s_readStairs, .int s_fault, .int s_faultPlace, .int s_wide, .int s_tall, .ref m_low, .ref m_high, .ref m_crack, .int s_booths, .ref m_weight, .ref m_fire, .ref m_crowd, .ref m_state, .ref m_where, .int s_hours, .int s_fees, .int s_looks, .ref m_words, .int s_end, .int s_next, .int s_kind, .int s_which, .int s_place, .int s_read, .ref m_told, .ref m_breaks, .ref m_row, .ref m_tried, .ref m_steps, .ref m_paths]))]) := by
  intro sz
  refine Met.ofW (cc := cX10_thrown) (maxL := 1) (ret := (some .int)) (by decide) rfl ?_
  intro p e s m args below meth c s₁ B hml hv
  obtain ⟨rfl, hsz, hP, hK, hD0, hX⟩ := hv
  have hx := B.exec
  have hb := B.bytes
  have hr := B.returns
  have hts0 := atoms_spec (ws := .code yX10_thrown cX10_thrown 1 (some .int) :: gw) B.pre
  have hts := fun (w : Cond) (h : w ∈ gw) => hts0 w (List.mem_cons_of_mem _ h)
  have hown : s.vm.findClass RX10 = some m.cls := findClass_of_methodNamed B.named
  have hlocks := B.notSynchronized
  have F : mFix p s m _ c cX10_thrown 1 RX10 := ⟨hx, hb, hml, hown, hts⟩
  subst hsz
  have hD := hD0.self (sz := s.heap.size)
  generalize hAe : va_A [(h0, .inr (9, [.ref m_tape, .int s_tapeSize, .int s_thrown, .ref m_rule, .ref m_rules, .int s_stairs, .ref m_stair, .int s_readStairs, .int s_fault, .int s_faultPlace, .int s_wide, .int s_tall, .ref m_low, .ref m_high, .ref m_crack, .int s_booths, .ref m_weight, .ref m_fire, .ref m_crowd, .ref m_state, .ref m_where, .int s_hours, .int s_fees, .int s_looks, .ref m_words, .int s_end, .int s_next, .int s_kind, .int s_which, .int s_place, .int s_read, .ref m_told, .ref m_breaks, .ref m_row, .ref m_tried, .ref m_steps, .ref m_paths]))] s.heap.size = A at hD hX ⊢
  have hA : ∀ q : Nat, s.heap.size ≤ q → A q := fun q h => by rw [← hAe]; exact Or.inr h
  have hS : va_S A s.heap s.heap [] := va_S.rf
  have hl := lv_entry ([.ref h0]) (n := 1) (Nat.le_of_ble_eq_true rfl)
  rw [lg_entry_eq]
  generalize (lg_sl ([.ref h0]) ++ List.replicate (1 - (lg_sl ([.ref h0])).length) Slot.unset).toArray = ls at hl ⊢
  have hl : lv_has ls 1 [(0, .ref h0)] := hl
  have hP : va_P D vwCl [(h0, .inr (9, [.ref m_tape, .int s_tapeSize, .int s_thrown, .ref m_rule, .ref m_rules, .int s_stairs, .ref m_stair, .int s_readStairs, .int s_fault, .int s_faultPlace, .int s_wide, .int s_tall, .ref m_low, .ref m_high, .ref m_crack, .int s_booths, .ref m_weight, .ref m_fire, .ref m_crowd, .ref m_state, .ref m_where, .int s_hours, .int s_fees, .int s_looks, .ref m_words, .int s_end, .int s_next, .int s_kind, .int s_which, .int s_place, .int s_read, .ref m_told, .ref m_breaks, .ref m_row, .ref m_tried, .ref m_steps, .ref m_paths]))] s.heap := hP
  refine lv_aload_n hx hb dX10_thrown_0 rfl (lv_at hl 0 rfl) ?_
  refine va_get (D := D) (ci := 9) (v := .int s_thrown) (C := RX10) (T := TX10) (N := 37) hx hb hts inG_X10 hown hK hP 0 rfl rfl 2 (by decide) (hts _ kw_4_197) (fun _ h9 => h9) rfl dX10_thrown_1 ?_
  have hP9 := hP.sub (ws' := [(h0, .inr (9, [.ref m_tape, .int s_tapeSize, .int s_thrown, .ref m_rule, .ref m_rules, .int s_stairs, .ref m_stair, .int s_readStairs, .int s_fault, .int s_faultPlace, .int s_wide, .int s_tall, .ref m_low, .ref m_high, .ref m_crack, .int s_booths, .ref m_weight, .ref m_fire, .ref m_crowd, .ref m_state, .ref m_where, .int s_hours, .int s_fees, .int s_looks, .ref m_words, .int s_end, .int s_next, .int s_kind, .int s_which, .int s_place, .int s_read, .ref m_told, .ref m_breaks, .ref m_row, .ref m_tried, .ref m_steps, .ref m_paths]))]) [0] rfl
  have hD9 := hD.sub (ws' := [(h0, .inr (9, [.ref m_tape, .int s_tapeSize, .int s_thrown, .ref m_rule, .ref m_rules, .int s_stairs, .ref m_stair, .int s_readStairs, .int s_fault, .int s_faultPlace, .int s_wide, .int s_tall, .ref m_low, .ref m_high, .ref m_crack, .int s_booths, .ref m_weight, .ref m_fire, .ref m_crowd, .ref m_state, .ref m_where, .int s_hours, .int s_fees, .int s_looks, .ref m_words, .int s_end, .int s_next, .int s_kind, .int s_which, .int s_place, .int s_read, .ref m_told, .ref m_breaks, .ref m_row, .ref m_tried, .ref m_steps, .ref m_paths]))]) [0] (by decide) rfl
  have hK9 := hK.sub (tys' := []) [] rfl
  refine W.widen (k := 0) (n := 0) (by decide) (by decide) ?_
  exact W.iret (v := s_thrown) hx hb hr (fun t ht hW => ⟨⟨s_thrown, (), rfl, rfl, by rw [ht]; exact hP9, va_K.moved hW.alike hK9, hD9⟩, hS.F ht⟩) hS.2.2 dX10_thrown_4
theorem dX10_isBooth_0 : decode cX10_isBooth 0 = .ok (.iload_n 1, 1) := by decide +kernel
theorem dX10_isBooth_1 : decode cX10_isBooth 1 = .ok (.ifCond .lt 25, 3) := by decide +kernel
theorem dX10_isBooth_26 : decode cX10_isBooth 26 = .ok (.iconst 0, 1) := by decide +kernel
theorem dX10_isBooth_27 : decode cX10_isBooth 27 = .ok (.ireturn, 1) := by decide +kernel
theorem dX10_isBooth_4 : decode cX10_isBooth 4 = .ok (.iload_n 1, 1) := by decide +kernel
theorem dX10_isBooth_5 : decode cX10_isBooth 5 = .ok (.aload_n 0, 1) := by decide +kernel
theorem dX10_isBooth_6 : decode cX10_isBooth 6 = .ok (.getfield 146, 3) := by decide +kernel
theorem dX10_isBooth_9 : decode cX10_isBooth 9 = .ok (.if_icmp .ge 17, 3) := by decide +kernel
set_option maxHeartbeats 4000000 in
set_option maxRecDepth 100000 in
theorem m_isBooth0 (l : Launch) (D : va_G) (h0 : Nat) (m_tape : Nat) (m_rule : Nat) (m_rules : Nat) (m_stair : Nat) (m_low : Nat) (m_high : Nat) (m_crack : Nat) (m_weight : Nat) (m_fire : Nat) (m_crowd : Nat) (m_state : Nat) (m_where : Nat) (m_words : Nat) (m_told : Nat) (m_breaks : Nat) (m_row : Nat) (m_tried : Nat) (m_steps : Nat) (m_paths : Nat) (s_tapeSize : Int32) (s_thrown : Int32) (s_stairs : Int32) (s_readStairs : Int32) (s_fault : Int32) (s_faultPlace : Int32) (s_wide : Int32) (s_tall : Int32) (s_hours : Int32) (s_fees : Int32) (s_looks : Int32) (s_end : Int32) (s_next : Int32) (s_kind : Int32) (s_which : Int32) (s_place : Int32) (s_read : Int32) (x : Int32) (y : Int32) : cI l yX10_isBooth (.code yX10_isBooth cX10_isBooth 3 (some .boolean)) ({ frames := 0, cells := 0, slots := 0, locals := 0 }) D [] [(h0, .inr (9, [.ref m_tape, .int s_tapeSize, .int s_thrown, .ref m_rule, .ref m_rules, .int s_stairs, .ref m_stair, .int s_readStairs, .int s_fault, .int s_faultPlace, .int s_wide, .int s_tall, .ref m_low, .ref m_high, .ref m_crack, .int 0, .ref m_weight, .ref m_fire, .ref m_crowd, .ref m_state, .ref m_where, .int s_hours, .int s_fees, .int s_looks, .ref m_words, .int s_end, .int s_next, .int s_kind, .int s_which, .int s_place, .int s_read, .ref m_told, .ref m_breaks, .ref m_row, .ref m_tried, .ref m_steps, .ref m_paths]))] xT [.ref h0, .int x, .int y] (S := Unit) (fun r _ => r = 0) (fun _ => []) (fun _ => [(h0, .inr (9, [.ref m_tape, .int s_tapeSize, .int s_thrown, .ref m_rule, .ref m_rules, .int s_stairs, .ref m_stair, .int s_readStairs, .int s_fault, .int s_faultPlace, .int s_wide, .int s_tall, .ref m_low, .ref m_high, .ref m_crack, .int 0, .ref m_weight, .ref m_fire, .ref m_crowd, .ref m_state, .ref m_where, .int s_hours, .int s_fees, .int s_looks, .ref m_words, .int s_end, .int s_next, .int s_kind, .int s_which, .int s_place, .int s_read, .ref m_told, .ref m_breaks, .ref m_row, .ref m_tried, .ref m_steps, .ref m_paths]))]) := by
  intro sz
  refine Met.ofW (cc := cX10_isBooth) (maxL := 3) (ret := (some .boolean)) (by decide) rfl ?_
  intro p e s m args below meth c s₁ B hml hv
  obtain ⟨rfl, hsz, hP, hK, hD0, hX⟩ := hv
  have hx := B.exec
  have hb := B.bytes
  have hr := B.returns
  have hts0 := atoms_spec (ws := .code yX10_isBooth cX10_isBooth 3 (some .boolean) :: gw) B.pre
  have hts := fun (w : Cond) (h : w ∈ gw) => hts0 w (List.mem_cons_of_mem _ h)
  have hown : s.vm.findClass RX10 = some m.cls := findClass_of_methodNamed B.named
  have hlocks := B.notSynchronized
  have F : mFix p s m _ c cX10_isBooth 3 RX10 := ⟨hx, hb, hml, hown, hts⟩
  subst hsz
  have hD := hD0.self (sz := s.heap.size)
  generalize hAe : va_A [(h0, .inr (9, [.ref m_tape, .int s_tapeSize, .int s_thrown, .ref m_rule, .ref m_rules, .int s_stairs, .ref m_stair, .int s_readStairs, .int s_fault, .int s_faultPlace, .int s_wide, .int s_tall, .ref m_low, .ref m_high, .ref m_crack, .int 0, .ref m_weight, .ref m_fire, .ref m_crowd, .ref m_state, .ref m_where, .int s_hours, .int s_fees, .int s_looks, .ref m_words, .int s_end, .int s_next, .int s_kind, .int s_which, .int s_place, .int s_read, .ref m_told, .ref m_breaks, .ref m_row, .ref m_tried, .ref m_steps, .ref m_paths]))] s.heap.size = A at hD hX ⊢
  have hA : ∀ q : Nat, s.heap.size ≤ q → A q := fun q h => by rw [← hAe]; exact Or.inr h
  have hS : va_S A s.heap s.heap [] := va_S.rf
  have hl := lv_entry ([.ref h0, .int x, .int y]) (n := 3) (Nat.le_of_ble_eq_true rfl)
  rw [lg_entry_eq]
  generalize (lg_sl ([.ref h0, .int x, .int y]) ++ List.replicate (3 - (lg_sl ([.ref h0, .int x, .int y])).length) Slot.unset).toArray = ls at hl ⊢
  have hl : lv_has ls 3 [(0, .ref h0), (1, .int x), (2, .int y)] := hl
  have hP : va_P D vwCl [(h0, .inr (9, [.ref m_tape, .int s_tapeSize, .int s_thrown, .ref m_rule, .ref m_rules, .int s_stairs, .ref m_stair, .int s_readStairs, .int s_fault, .int s_faultPlace, .int s_wide, .int s_tall, .ref m_low, .ref m_high, .ref m_crack, .int 0, .ref m_weight, .ref m_fire, .ref m_crowd, .ref m_state, .ref m_where, .int s_hours, .int s_fees, .int s_looks, .ref m_words, .int s_end, .int s_next, .int s_kind, .int s_which, .int s_place, .int s_read, .ref m_told, .ref m_breaks, .ref m_row, .ref m_tried, .ref m_steps, .ref m_paths]))] s.heap := hP
  refine lv_iload_n hx hb dX10_isBooth_0 rfl (lv_at hl 1 rfl) ?_
  refine lv_if_lt (tgt := 26) hx hb dX10_isBooth_1 (by decide) (fun c_1 => ?_) (fun c_1 => ?_)
  · skip
    refine lv_iconst (v := 0) hx hb dX10_isBooth_26 (by decide) ?_
    have hP9 := hP.sub (ws' := [(h0, .inr (9, [.ref m_tape, .int s_tapeSize, .int s_thrown, .ref m_rule, .ref m_rules, .int s_stairs, .ref m_stair, .int s_readStairs, .int s_fault, .int s_faultPlace, .int s_wide, .int s_tall, .ref m_low, .ref m_high, .ref m_crack, .int 0, .ref m_weight, .ref m_fire, .ref m_crowd, .ref m_state, .ref m_where, .int s_hours, .int s_fees, .int s_looks, .ref m_words, .int s_end, .int s_next, .int s_kind, .int s_which, .int s_place, .int s_read, .ref m_told, .ref m_breaks, .ref m_row, .ref m_tried, .ref m_steps, .ref m_paths]))]) [0] rfl
    have hD9 := hD.sub (ws' := [(h0, .inr (9, [.ref m_tape, .int s_tapeSize, .int s_thrown, .ref m_rule, .ref m_rules, .int s_stairs, .ref m_stair, .int s_readStairs, .int s_fault, .int s_faultPlace, .int s_wide, .int s_tall, .ref m_low, .ref m_high, .ref m_crack, .int 0, .ref m_weight, .ref m_fire, .ref m_crowd, .ref m_state, .ref m_where, .int s_hours, .int s_fees, .int s_looks, .ref m_words, .int s_end, .int s_next, .int s_kind, .int s_which, .int s_place, .int s_read, .ref m_told, .ref m_breaks, .ref m_row, .ref m_tried, .ref m_steps, .ref m_paths]))]) [0] (by decide) rfl
    have hK9 := hK.sub (tys' := []) [] rfl
    refine W.widen (k := 0) (n := 0) (by decide) (by decide) ?_
    exact W.zret (v := 0) hx hb hr rfl (fun t ht hW => ⟨⟨0, (), rfl, rfl, by rw [ht]; exact hP9, va_K.moved hW.alike hK9, hD9⟩, hS.F ht⟩) hS.2.2 dX10_isBooth_27
  · skip
    refine lv_iload_n hx hb dX10_isBooth_4 rfl (lv_at hl 1 rfl) ?_
    refine lv_aload_n hx hb dX10_isBooth_5 rfl (lv_at hl 0 rfl) ?_
    refine va_get (D := D) (ci := 9) (v := .int 0) (C := RX10) (T := TX10) (N := 37) hx hb hts inG_X10 hown hK hP 0 rfl rfl 15 (by decide) (hts _ kw_4_210) (fun _ h9 => h9) rfl dX10_isBooth_6 ?_
    refine lv_icmp_ge (tgt := 26) hx hb dX10_isBooth_9 (by decide) (fun c_2 => ?_) (fun c_2 => absurd (Int32.not_lt.mp c_1) c_2)
    have c_2 := Int32.not_lt.mpr c_2
    refine lv_iconst (v := 0) hx hb dX10_isBooth_26 (by decide) ?_
    have hP9 := hP.sub (ws' := [(h0, .inr (9, [.ref m_tape, .int s_tapeSize, .int s_thrown, .ref m_rule, .ref m_rules, .int s_stairs, .ref m_stair, .int s_readStairs, .int s_fault, .int s_faultPlace, .int s_wide, .int s_tall, .ref m_low, .ref m_high, .ref m_crack, .int 0, .ref m_weight, .ref m_fire, .ref m_crowd, .ref m_state, .ref m_where, .int s_hours, .int s_fees, .int s_looks, .ref m_words, .int s_end, .int s_next, .int s_kind, .int s_which, .int s_place, .int s_read, .ref m_told, .ref m_breaks, .ref m_row, .ref m_tried, .ref m_steps, .ref m_paths]))]) [0] rfl
    have hD9 := hD.sub (ws' := [(h0, .inr (9, [.ref m_tape, .int s_tapeSize, .int s_thrown, .ref m_rule, .ref m_rules, .int s_stairs, .ref m_stair, .int s_readStairs, .int s_fault, .int s_faultPlace, .int s_wide, .int s_tall, .ref m_low, .ref m_high, .ref m_crack, .int 0, .ref m_weight, .ref m_fire, .ref m_crowd, .ref m_state, .ref m_where, .int s_hours, .int s_fees, .int s_looks, .ref m_words, .int s_end, .int s_next, .int s_kind, .int s_which, .int s_place, .int s_read, .ref m_told, .ref m_breaks, .ref m_row, .ref m_tried, .ref m_steps, .ref m_paths]))]) [0] (by decide) rfl
    have hK9 := hK.sub (tys' := []) [] rfl
    refine W.widen (k := 0) (n := 0) (by decide) (by decide) ?_
    exact W.zret (v := 0) hx hb hr rfl (fun t ht hW => ⟨⟨0, (), rfl, rfl, by rw [ht]; exact hP9, va_K.moved hW.alike hK9, hD9⟩, hS.F ht⟩) hS.2.2 dX10_isBooth_27
theorem dX10_feed_23 : decode cX10_feed 23 = .ok (.iload 6, 2) := by decide +kernel
theorem dX10_feed_25 : decode cX10_feed 25 = .ok (.bipush 20, 2) := by decide +kernel
theorem dX10_feed_27 : decode cX10_feed 27 = .ok (.if_icmp .ge 86, 3) := by decide +kernel
theorem dX10_feed_30 : decode cX10_feed 30 = .ok (.iload 6, 2) := by decide +kernel
theorem dX10_feed_32 : decode cX10_feed 32 = .ok (.iconst 4, 1) := by decide +kernel
theorem dX10_feed_33 : decode cX10_feed 33 = .ok (.if_icmp .ge 7, 3) := by decide +kernel
theorem dX10_feed_40 : decode cX10_feed 40 = .ok (.iload 6, 2) := by decide +kernel
theorem dX10_feed_42 : decode cX10_feed 42 = .ok (.bipush 8, 2) := by decide +kernel
theorem dX10_feed_44 : decode cX10_feed 44 = .ok (.if_icmp .ge 7, 3) := by decide +kernel
theorem dX10_feed_51 : decode cX10_feed 51 = .ok (.iload 6, 2) := by decide +kernel
theorem dX10_feed_53 : decode cX10_feed 53 = .ok (.bipush 12, 2) := by decide +kernel
theorem dX10_feed_55 : decode cX10_feed 55 = .ok (.if_icmp .ge 7, 3) := by decide +kernel
theorem dX10_feed_62 : decode cX10_feed 62 = .ok (.iload 6, 2) := by decide +kernel
theorem dX10_feed_64 : decode cX10_feed 64 = .ok (.bipush 16, 2) := by decide +kernel
theorem dX10_feed_66 : decode cX10_feed 66 = .ok (.if_icmp .ge 8, 3) := by decide +kernel
theorem dX10_feed_74 : decode cX10_feed 74 = .ok (.iload 5, 2) := by decide +kernel
theorem dX10_feed_76 : decode cX10_feed 76 = .ok (.istore 7, 2) := by decide +kernel
theorem dX10_feed_78 : decode cX10_feed 78 = .ok (.aload_n 0, 1) := by decide +kernel
theorem dX10_feed_79 : decode cX10_feed 79 = .ok (.getfield 7, 3) := by decide +kernel
theorem dX10_feed_82 : decode cX10_feed 82 = .ok (.aload_n 0, 1) := by decide +kernel
theorem kw_4_196 : Cond.fieldLink RX10 81 "IceFairModel" "tapeSize" "I" ∈ gw := gw_t4 (List.mem_of_getElem? (i := 196) (by decide +kernel)) (by decide +kernel)
theorem dX10_feed_83 : decode cX10_feed 83 = .ok (.getfield 81, 3) := by decide +kernel
theorem dX10_feed_86 : decode cX10_feed 86 = .ok (.iload 6, 2) := by decide +kernel
theorem dX10_feed_88 : decode cX10_feed 88 = .ok (.iadd, 1) := by decide +kernel
theorem dX10_feed_89 : decode cX10_feed 89 = .ok (.iload 7, 2) := by decide +kernel
theorem dX10_feed_91 : decode cX10_feed 91 = .ok (.bipush 24, 2) := by decide +kernel
theorem dX10_feed_93 : decode cX10_feed 93 = .ok (.bipush 8, 2) := by decide +kernel
theorem dX10_feed_95 : decode cX10_feed 95 = .ok (.iload 6, 2) := by decide +kernel
theorem dX10_feed_97 : decode cX10_feed 97 = .ok (.iconst 4, 1) := by decide +kernel
theorem dX10_feed_98 : decode cX10_feed 98 = .ok (.irem, 1) := by decide +kernel
theorem dX10_feed_99 : decode cX10_feed 99 = .ok (.imul, 1) := by decide +kernel
theorem dX10_feed_100 : decode cX10_feed 100 = .ok (.isub, 1) := by decide +kernel
theorem dX10_feed_101 : decode cX10_feed 101 = .ok (.ishr, 1) := by decide +kernel
theorem dX10_feed_102 : decode cX10_feed 102 = .ok (.sipush 255, 3) := by decide +kernel
theorem dX10_feed_105 : decode cX10_feed 105 = .ok (.iand, 1) := by decide +kernel
theorem dX10_feed_106 : decode cX10_feed 106 = .ok (.iastore, 1) := by decide +kernel
theorem dX10_feed_107 : decode cX10_feed 107 = .ok (.iinc 6 1, 3) := by decide +kernel
theorem dX10_feed_110 : decode cX10_feed 110 = .ok (.goto (-87), 3) := by decide +kernel
theorem dX10_feed_69 : decode cX10_feed 69 = .ok (.iload 4, 2) := by decide +kernel
theorem dX10_feed_71 : decode cX10_feed 71 = .ok (.goto 5, 3) := by decide +kernel
theorem dX10_feed_58 : decode cX10_feed 58 = .ok (.iload_n 3, 1) := by decide +kernel
theorem dX10_feed_59 : decode cX10_feed 59 = .ok (.goto 17, 3) := by decide +kernel
theorem dX10_feed_47 : decode cX10_feed 47 = .ok (.iload_n 2, 1) := by decide +kernel
theorem dX10_feed_48 : decode cX10_feed 48 = .ok (.goto 28, 3) := by decide +kernel
theorem dX10_feed_36 : decode cX10_feed 36 = .ok (.iload_n 1, 1) := by decide +kernel
theorem dX10_feed_37 : decode cX10_feed 37 = .ok (.goto 39, 3) := by decide +kernel
set_option maxHeartbeats 4000000 in
set_option maxRecDepth 100000 in
theorem lp_m_feed {p : Program} {l : Launch} {e : Env} {s : State} {m : MethodId} {args : Array Value} {below : List Frame} {meth : Method} {c : Code} {Q : State → Prop} {A : Nat → Prop} {D : va_G} (F : mFix p s m args c cX10_feed 8 RX10) (hA : ∀ q, s.heap.size ≤ q → A q) (h0 : Nat) (m_tape : Nat) (m_rule : Nat) (m_rules : Nat) (m_stair : Nat) (m_low : Nat) (m_high : Nat) (m_crack : Nat) (m_weight : Nat) (m_fire : Nat) (m_crowd : Nat) (m_state : Nat) (m_where : Nat) (m_words : Nat) (m_told : Nat) (m_breaks : Nat) (m_row : Nat) (m_tried : Nat) (m_steps : Nat) (m_paths : Nat) (y_tape : ClassId) (a1 : Int32) (a2 : Int32) (a3 : Int32) (a4 : Int32) (a5 : Int32) (hK : va_K D vwCl [(y_tape, .int)] s)
    (kx_113 : ∀ (g : Nat → Int32), ∀ (H : Heap) (locs : List Loc), va_P D vwCl [(h0, .inr (9, [.ref m_tape, .int 0, .int 0, .ref m_rule, .ref m_rules, .int 0, .ref m_stair, .int 0, .int 0, .int ((-1)), .int 5, .int 5, .ref m_low, .ref m_high, .ref m_crack, .int 0, .ref m_weight, .ref m_fire, .ref m_crowd, .ref m_state, .ref m_where, .int 0, .int 0, .int 0, .ref m_words, .int 0, .int 0, .int 0, .int 0, .int 0, .int 0, .ref m_told, .ref m_breaks, .ref m_row, .ref m_tried, .ref m_steps, .ref m_paths])), (m_tape, .inl (y_tape, 400, .inl g))] H → va_D A [(h0, .inr (9, [.ref m_tape, .int 0, .int 0, .ref m_rule, .ref m_rules, .int 0, .ref m_stair, .int 0, .int 0, .int ((-1)), .int 5, .int 5, .ref m_low, .ref m_high, .ref m_crack, .int 0, .ref m_weight, .ref m_fire, .ref m_crowd, .ref m_state, .ref m_where, .int 0, .int 0, .int 0, .ref m_words, .int 0, .int 0, .int 0, .int 0, .int 0, .int 0, .ref m_told, .ref m_breaks, .ref m_row, .ref m_tried, .ref m_steps, .ref m_paths])), (m_tape, .inl (y_tape, 400, .inl g))] → va_S A s.heap H locs → ∀ ls : Array Slot, lv_has ls 8 [(0, .ref h0)] → W p l e ({ frames := 0, cells := 0, slots := 0, locals := 0 }) s m args below meth c H locs 0 0 Q (F0 m 113 ls [])) :
    ∀ n : Nat, ∀ (g : Nat → Int32) (i : Nat), (i ≤ 20) → (20 - i) < n → ∀ (H : Heap) (locs : List Loc), va_P D vwCl [(h0, .inr (9, [.ref m_tape, .int 0, .int 0, .ref m_rule, .ref m_rules, .int 0, .ref m_stair, .int 0, .int 0, .int ((-1)), .int 5, .int 5, .ref m_low, .ref m_high, .ref m_crack, .int 0, .ref m_weight, .ref m_fire, .ref m_crowd, .ref m_state, .ref m_where, .int 0, .int 0, .int 0, .ref m_words, .int 0, .int 0, .int 0, .int 0, .int 0, .int 0, .ref m_told, .ref m_breaks, .ref m_row, .ref m_tried, .ref m_steps, .ref m_paths])), (m_tape, .inl (y_tape, 400, .inl g))] H → va_D A [(h0, .inr (9, [.ref m_tape, .int 0, .int 0, .ref m_rule, .ref m_rules, .int 0, .ref m_stair, .int 0, .int 0, .int ((-1)), .int 5, .int 5, .ref m_low, .ref m_high, .ref m_crack, .int 0, .ref m_weight, .ref m_fire, .ref m_crowd, .ref m_state, .ref m_where, .int 0, .int 0, .int 0, .ref m_words, .int 0, .int 0, .int 0, .int 0, .int 0, .int 0, .ref m_told, .ref m_breaks, .ref m_row, .ref m_tried, .ref m_steps, .ref m_paths])), (m_tape, .inl (y_tape, 400, .inl g))] → va_S A s.heap H locs → ∀ ls : Array Slot, lv_has ls 8 [(0, .ref h0), (1, .int a1), (2, .int a2), (3, .int a3), (4, .int a4), (5, .int a5), (6, .int (nI i))] → W p l e ({ frames := 0, cells := 0, slots := 0, locals := 0 }) s m args below meth c H locs 0 0 Q (F0 m 23 ls []) := by
  intro n
  induction n with
  | zero => intro g i hi hn; exact absurd hn (Nat.not_lt_zero _)
  | succ n ih =>
    intro g i hi hn H locs hP hD hS ls hl
    obtain ⟨hx, hb, hml, hown, hts⟩ := id F
    refine lv_iload hx hb dX10_feed_23 (lv_at hl 6 rfl) ?_
    refine lv_bipush (v := 20) hx hb dX10_feed_25 (by decide) ?_
    refine lv_icmp_ge (tgt := 113) hx hb dX10_feed_27 (by decide) (fun c_1 => ?_) (fun c_1 => ?_)
    · skip
      have c_1n : 20 ≤ i := (nI_leI (by omega) (by omega)).mp c_1
      have c_1 := Int32.not_lt.mpr c_1
      exact kx_113 g  H locs (hP.sub [0, 1] rfl) (hD.sub [0, 1] (by decide) rfl) hS ls (lv_sub hl [0] rfl)
    · skip
      have c_1n : i < 20 := nb_le (by omega) (by omega) c_1
      have c_1 := Int32.not_le.mp c_1
      refine lv_iload hx hb dX10_feed_30 (lv_at hl 6 rfl) ?_
      refine lv_iconst (v := 4) hx hb dX10_feed_32 (by decide) ?_
      refine lv_icmp_ge (tgt := 40) hx hb dX10_feed_33 (by decide) (fun c_2 => ?_) (fun c_2 => ?_)
      · skip
        have c_2n : 4 ≤ i := (nI_leI (by omega) (by omega)).mp c_2
        have c_2 := Int32.not_lt.mpr c_2
        refine lv_iload hx hb dX10_feed_40 (lv_at hl 6 rfl) ?_
        refine lv_bipush (v := 8) hx hb dX10_feed_42 (by decide) ?_
        refine lv_icmp_ge (tgt := 51) hx hb dX10_feed_44 (by decide) (fun c_3 => ?_) (fun c_3 => ?_)
        · skip
          have c_3n : 8 ≤ i := (nI_leI (by omega) (by omega)).mp c_3
          have c_3 := Int32.not_lt.mpr c_3
          refine lv_iload hx hb dX10_feed_51 (lv_at hl 6 rfl) ?_
          refine lv_bipush (v := 12) hx hb dX10_feed_53 (by decide) ?_
          refine lv_icmp_ge (tgt := 62) hx hb dX10_feed_55 (by decide) (fun c_4 => ?_) (fun c_4 => ?_)
          · skip
            have c_4n : 12 ≤ i := (nI_leI (by omega) (by omega)).mp c_4
            have c_4 := Int32.not_lt.mpr c_4
            refine lv_iload hx hb dX10_feed_62 (lv_at hl 6 rfl) ?_
            refine lv_bipush (v := 16) hx hb dX10_feed_64 (by decide) ?_
            refine lv_icmp_ge (tgt := 74) hx hb dX10_feed_66 (by decide) (fun c_5 => ?_) (fun c_5 => ?_)
            · skip
              have c_5n : 16 ≤ i := (nI_leI (by omega) (by omega)).mp c_5
              have c_5 := Int32.not_lt.mpr c_5
              refine lv_iload hx hb dX10_feed_74 (lv_at hl 5 rfl) ?_
              refine lv_istore (lv' := [(7, .int a5), (0, .ref h0), (1, .int a1), (2, .int a2), (3, .int a3), (4, .int a4), (5, .int a5), (6, .int (nI i))]) hx hb dX10_feed_76 hl (by decide) rfl (fun ls hl => ?_)
              refine lv_aload_n hx hb dX10_feed_78 rfl (lv_at hl 1 rfl) ?_
              refine va_get (D := D) (ci := 9) (v := .ref m_tape) (C := RX10) (T := TX10) (N := 37) hx hb hts inG_X10 hown hK hP 0 rfl rfl 0 (by decide) (hts _ kw_4_195) (fun _ h9 => h9) rfl dX10_feed_79 ?_
              refine lv_aload_n hx hb dX10_feed_82 rfl (lv_at hl 1 rfl) ?_
              refine va_get (D := D) (ci := 9) (v := .int 0) (C := RX10) (T := TX10) (N := 37) hx hb hts inG_X10 hown hK hP 0 rfl rfl 1 (by decide) (hts _ kw_4_196) (fun _ h9 => h9) rfl dX10_feed_83 ?_
              refine lv_iload hx hb dX10_feed_86 (lv_at hl 7 rfl) ?_
              refine lv_iadd hx hb dX10_feed_88 ?_
              refine lv_topi (fun z_6 ez_6 => ?_)
              obtain rfl : z_6 = nI (0 + i) := ez_6.trans (nI_add 0 i)
              refine lv_iload hx hb dX10_feed_89 (lv_at hl 0 rfl) ?_
              refine lv_bipush (v := 24) hx hb dX10_feed_91 (by decide) ?_
              refine lv_bipush (v := 8) hx hb dX10_feed_93 (by decide) ?_
              refine lv_iload hx hb dX10_feed_95 (lv_at hl 7 rfl) ?_
              refine lv_iconst (v := 4) hx hb dX10_feed_97 (by decide) ?_
              refine lv_irem hx hb dX10_feed_98 (by decide) ?_
              refine lv_topi (fun z_7 ez_7 => ?_)
              obtain rfl : z_7 = nI (i % 4) := ez_7.trans (pk_rem (a := i) (d := 4) (by omega) (by decide) (by decide))
              refine lv_imul hx hb dX10_feed_99 ?_
              refine lv_topi (fun z_8 ez_8 => ?_)
              obtain rfl : z_8 = nI (8 * (i % 4)) := ez_8.trans (pk_mul 8 (i % 4))
              refine lv_isub hx hb dX10_feed_100 ?_
              refine lv_topi (fun z_9 ez_9 => ?_)
              refine lv_ishr hx hb dX10_feed_101 ?_
              refine lv_topi (fun z_10 ez_10 => ?_)
              refine lv_sipush (v := 255) hx hb dX10_feed_102 (by decide) ?_
              refine lv_iand hx hb dX10_feed_105 ?_
              refine lv_topi (fun z_11 ez_11 => ?_)
              refine m_iast hx hb hK hP hD hS 1 0 rfl rfl (0 + i) rfl (by omega) (by decide) dX10_feed_106 (fun g_12 H locs eg_12 hP hD hS => ?_)
              have hP : va_P D vwCl [(h0, .inr (9, [.ref m_tape, .int 0, .int 0, .ref m_rule, .ref m_rules, .int 0, .ref m_stair, .int 0, .int 0, .int ((-1)), .int 5, .int 5, .ref m_low, .ref m_high, .ref m_crack, .int 0, .ref m_weight, .ref m_fire, .ref m_crowd, .ref m_state, .ref m_where, .int 0, .int 0, .int 0, .ref m_words, .int 0, .int 0, .int 0, .int 0, .int 0, .int 0, .ref m_told, .ref m_breaks, .ref m_row, .ref m_tried, .ref m_steps, .ref m_paths])), (m_tape, .inl (y_tape, 400, .inl g_12))] H := hP
              have hD : va_D A [(h0, .inr (9, [.ref m_tape, .int 0, .int 0, .ref m_rule, .ref m_rules, .int 0, .ref m_stair, .int 0, .int 0, .int ((-1)), .int 5, .int 5, .ref m_low, .ref m_high, .ref m_crack, .int 0, .ref m_weight, .ref m_fire, .ref m_crowd, .ref m_state, .ref m_where, .int 0, .int 0, .int 0, .ref m_words, .int 0, .int 0, .int 0, .int 0, .int 0, .int 0, .ref m_told, .ref m_breaks, .ref m_row, .ref m_tried, .ref m_steps, .ref m_paths])), (m_tape, .inl (y_tape, 400, .inl g_12))] := hD
              refine lv_iinc (v := nI (i + 1)) (lv' := [(6, .int (nI (i + 1))), (7, .int a5), (0, .ref h0), (1, .int a1), (2, .int a2), (3, .int a3), (4, .int a4), (5, .int a5)]) hx hb dX10_feed_107 hl (k := 7) rfl (nI_add i 1) (by decide) rfl (fun ls hl => ?_)
              refine lv_goto (tgt := 23) hx hb dX10_feed_110 (by decide) ?_
              exact ih g_12 (i + 1) (by omega) (by omega) H locs (hP.sub [0, 1] rfl) (hD.sub [0, 1] (by decide) rfl) hS ls (lv_sub hl [2, 3, 4, 5, 6, 7, 0] rfl)
            · skip
              have c_5n : i < 16 := nb_le (by omega) (by omega) c_5
              have c_5 := Int32.not_le.mp c_5
              refine lv_iload hx hb dX10_feed_69 (lv_at hl 4 rfl) ?_
              refine lv_goto (tgt := 76) hx hb dX10_feed_71 (by decide) ?_
              refine lv_istore (lv' := [(7, .int a4), (0, .ref h0), (1, .int a1), (2, .int a2), (3, .int a3), (4, .int a4), (5, .int a5), (6, .int (nI i))]) hx hb dX10_feed_76 hl (by decide) rfl (fun ls hl => ?_)
              refine lv_aload_n hx hb dX10_feed_78 rfl (lv_at hl 1 rfl) ?_
              refine va_get (D := D) (ci := 9) (v := .ref m_tape) (C := RX10) (T := TX10) (N := 37) hx hb hts inG_X10 hown hK hP 0 rfl rfl 0 (by decide) (hts _ kw_4_195) (fun _ h9 => h9) rfl dX10_feed_79 ?_
              refine lv_aload_n hx hb dX10_feed_82 rfl (lv_at hl 1 rfl) ?_
              refine va_get (D := D) (ci := 9) (v := .int 0) (C := RX10) (T := TX10) (N := 37) hx hb hts inG_X10 hown hK hP 0 rfl rfl 1 (by decide) (hts _ kw_4_196) (fun _ h9 => h9) rfl dX10_feed_83 ?_
              refine lv_iload hx hb dX10_feed_86 (lv_at hl 7 rfl) ?_
              refine lv_iadd hx hb dX10_feed_88 ?_
              refine lv_topi (fun z_13 ez_13 => ?_)
              obtain rfl : z_13 = nI (0 + i) := ez_13.trans (nI_add 0 i)
              refine lv_iload hx hb dX10_feed_89 (lv_at hl 0 rfl) ?_
              refine lv_bipush (v := 24) hx hb dX10_feed_91 (by decide) ?_
              refine lv_bipush (v := 8) hx hb dX10_feed_93 (by decide) ?_
              refine lv_iload hx hb dX10_feed_95 (lv_at hl 7 rfl) ?_
              refine lv_iconst (v := 4) hx hb dX10_feed_97 (by decide) ?_
              refine lv_irem hx hb dX10_feed_98 (by decide) ?_
              refine lv_topi (fun z_14 ez_14 => ?_)
              obtain rfl : z_14 = nI (i % 4) := ez_14.trans (pk_rem (a := i) (d := 4) (by omega) (by decide) (by decide))
              refine lv_imul hx hb dX10_feed_99 ?_
              refine lv_topi (fun z_15 ez_15 => ?_)
              obtain rfl : z_15 = nI (8 * (i % 4)) := ez_15.trans (pk_mul 8 (i % 4))
              refine lv_isub hx hb dX10_feed_100 ?_
              refine lv_topi (fun z_16 ez_16 => ?_)
              refine lv_ishr hx hb dX10_feed_101 ?_
              refine lv_topi (fun z_17 ez_17 => ?_)
              refine lv_sipush (v := 255) hx hb dX10_feed_102 (by decide) ?_
              refine lv_iand hx hb dX10_feed_105 ?_
              refine lv_topi (fun z_18 ez_18 => ?_)
              refine m_iast hx hb hK hP hD hS 1 0 rfl rfl (0 + i) rfl (by omega) (by decide) dX10_feed_106 (fun g_19 H locs eg_19 hP hD hS => ?_)
              have hP : va_P D vwCl [(h0, .inr (9, [.ref m_tape, .int 0, .int 0, .ref m_rule, .ref m_rules, .int 0, .ref m_stair, .int 0, .int 0, .int ((-1)), .int 5, .int 5, .ref m_low, .ref m_high, .ref m_crack, .int 0, .ref m_weight, .ref m_fire, .ref m_crowd, .ref m_state, .ref m_where, .int 0, .int 0, .int 0, .ref m_words, .int 0, .int 0, .int 0, .int 0, .int 0, .int 0, .ref m_told, .ref m_breaks, .ref m_row, .ref m_tried, .ref m_steps, .ref m_paths])), (m_tape, .inl (y_tape, 400, .inl g_19))] H := hP
              have hD : va_D A [(h0, .inr (9, [.ref m_tape, .int 0, .int 0, .ref m_rule, .ref m_rules, .int 0, .ref m_stair, .int 0, .int 0, .int ((-1)), .int 5, .int 5, .ref m_low, .ref m_high, .ref m_crack, .int 0, .ref m_weight, .ref m_fire, .ref m_crowd, .ref m_state, .ref m_where, .int 0, .int 0, .int 0, .ref m_words, .int 0, .int 0, .int 0, .int 0, .int 0, .int 0, .ref m_told, .ref m_breaks, .ref m_row, .ref m_tried, .ref m_steps, .ref m_paths])), (m_tape, .inl (y_tape, 400, .inl g_19))] := hD
              refine lv_iinc (v := nI (i + 1)) (lv' := [(6, .int (nI (i + 1))), (7, .int a4), (0, .ref h0), (1, .int a1), (2, .int a2), (3, .int a3), (4, .int a4), (5, .int a5)]) hx hb dX10_feed_107 hl (k := 7) rfl (nI_add i 1) (by decide) rfl (fun ls hl => ?_)
              refine lv_goto (tgt := 23) hx hb dX10_feed_110 (by decide) ?_
              exact ih g_19 (i + 1) (by omega) (by omega) H locs (hP.sub [0, 1] rfl) (hD.sub [0, 1] (by decide) rfl) hS ls (lv_sub hl [2, 3, 4, 5, 6, 7, 0] rfl)
          · skip
            have c_4n : i < 12 := nb_le (by omega) (by omega) c_4
            have c_4 := Int32.not_le.mp c_4
            refine lv_iload_n hx hb dX10_feed_58 rfl (lv_at hl 3 rfl) ?_
            refine lv_goto (tgt := 76) hx hb dX10_feed_59 (by decide) ?_
            refine lv_istore (lv' := [(7, .int a3), (0, .ref h0), (1, .int a1), (2, .int a2), (3, .int a3), (4, .int a4), (5, .int a5), (6, .int (nI i))]) hx hb dX10_feed_76 hl (by decide) rfl (fun ls hl => ?_)
            refine lv_aload_n hx hb dX10_feed_78 rfl (lv_at hl 1 rfl) ?_
            refine va_get (D := D) (ci := 9) (v := .ref m_tape) (C := RX10) (T := TX10) (N := 37) hx hb hts inG_X10 hown hK hP 0 rfl rfl 0 (by decide) (hts _ kw_4_195) (fun _ h9 => h9) rfl dX10_feed_79 ?_
            refine lv_aload_n hx hb dX10_feed_82 rfl (lv_at hl 1 rfl) ?_
            refine va_get (D := D) (ci := 9) (v := .int 0) (C := RX10) (T := TX10) (N := 37) hx hb hts inG_X10 hown hK hP 0 rfl rfl 1 (by decide) (hts _ kw_4_196) (fun _ h9 => h9) rfl dX10_feed_83 ?_
            refine lv_iload hx hb dX10_feed_86 (lv_at hl 7 rfl) ?_
            refine lv_iadd hx hb dX10_feed_88 ?_
            refine lv_topi (fun z_20 ez_20 => ?_)
            obtain rfl : z_20 = nI (0 + i) := ez_20.trans (nI_add 0 i)
            refine lv_iload hx hb dX10_feed_89 (lv_at hl 0 rfl) ?_
            refine lv_bipush (v := 24) hx hb dX10_feed_91 (by decide) ?_
            refine lv_bipush (v := 8) hx hb dX10_feed_93 (by decide) ?_
            refine lv_iload hx hb dX10_feed_95 (lv_at hl 7 rfl) ?_
            refine lv_iconst (v := 4) hx hb dX10_feed_97 (by decide) ?_
            refine lv_irem hx hb dX10_feed_98 (by decide) ?_
            refine lv_topi (fun z_21 ez_21 => ?_)
            obtain rfl : z_21 = nI (i % 4) := ez_21.trans (pk_rem (a := i) (d := 4) (by omega) (by decide) (by decide))
            refine lv_imul hx hb dX10_feed_99 ?_
            refine lv_topi (fun z_22 ez_22 => ?_)
            obtain rfl : z_22 = nI (8 * (i % 4)) := ez_22.trans (pk_mul 8 (i % 4))
            refine lv_isub hx hb dX10_feed_100 ?_
            refine lv_topi (fun z_23 ez_23 => ?_)
            refine lv_ishr hx hb dX10_feed_101 ?_
            refine lv_topi (fun z_24 ez_24 => ?_)
            refine lv_sipush (v := 255) hx hb dX10_feed_102 (by decide) ?_
            refine lv_iand hx hb dX10_feed_105 ?_
            refine lv_topi (fun z_25 ez_25 => ?_)
            refine m_iast hx hb hK hP hD hS 1 0 rfl rfl (0 + i) rfl (by omega) (by decide) dX10_feed_106 (fun g_26 H locs eg_26 hP hD hS => ?_)
            have hP : va_P D vwCl [(h0, .inr (9, [.ref m_tape, .int 0, .int 0, .ref m_rule, .ref m_rules, .int 0, .ref m_stair, .int 0, .int 0, .int ((-1)), .int 5, .int 5, .ref m_low, .ref m_high, .ref m_crack, .int 0, .ref m_weight, .ref m_fire, .ref m_crowd, .ref m_state, .ref m_where, .int 0, .int 0, .int 0, .ref m_words, .int 0, .int 0, .int 0, .int 0, .int 0, .int 0, .ref m_told, .ref m_breaks, .ref m_row, .ref m_tried, .ref m_steps, .ref m_paths])), (m_tape, .inl (y_tape, 400, .inl g_26))] H := hP
            have hD : va_D A [(h0, .inr (9, [.ref m_tape, .int 0, .int 0, .ref m_rule, .ref m_rules, .int 0, .ref m_stair, .int 0, .int 0, .int ((-1)), .int 5, .int 5, .ref m_low, .ref m_high, .ref m_crack, .int 0, .ref m_weight, .ref m_fire, .ref m_crowd, .ref m_state, .ref m_where, .int 0, .int 0, .int 0, .ref m_words, .int 0, .int 0, .int 0, .int 0, .int 0, .int 0, .ref m_told, .ref m_breaks, .ref m_row, .ref m_tried, .ref m_steps, .ref m_paths])), (m_tape, .inl (y_tape, 400, .inl g_26))] := hD
            refine lv_iinc (v := nI (i + 1)) (lv' := [(6, .int (nI (i + 1))), (7, .int a3), (0, .ref h0), (1, .int a1), (2, .int a2), (3, .int a3), (4, .int a4), (5, .int a5)]) hx hb dX10_feed_107 hl (k := 7) rfl (nI_add i 1) (by decide) rfl (fun ls hl => ?_)
            refine lv_goto (tgt := 23) hx hb dX10_feed_110 (by decide) ?_
            exact ih g_26 (i + 1) (by omega) (by omega) H locs (hP.sub [0, 1] rfl) (hD.sub [0, 1] (by decide) rfl) hS ls (lv_sub hl [2, 3, 4, 5, 6, 7, 0] rfl)
        · skip
          have c_3n : i < 8 := nb_le (by omega) (by omega) c_3
          have c_3 := Int32.not_le.mp c_3
          refine lv_iload_n hx hb dX10_feed_47 rfl (lv_at hl 2 rfl) ?_
          refine lv_goto (tgt := 76) hx hb dX10_feed_48 (by decide) ?_
          refine lv_istore (lv' := [(7, .int a2), (0, .ref h0), (1, .int a1), (2, .int a2), (3, .int a3), (4, .int a4), (5, .int a5), (6, .int (nI i))]) hx hb dX10_feed_76 hl (by decide) rfl (fun ls hl => ?_)
          refine lv_aload_n hx hb dX10_feed_78 rfl (lv_at hl 1 rfl) ?_
          refine va_get (D := D) (ci := 9) (v := .ref m_tape) (C := RX10) (T := TX10) (N := 37) hx hb hts inG_X10 hown hK hP 0 rfl rfl 0 (by decide) (hts _ kw_4_195) (fun _ h9 => h9) rfl dX10_feed_79 ?_
          refine lv_aload_n hx hb dX10_feed_82 rfl (lv_at hl 1 rfl) ?_
          refine va_get (D := D) (ci := 9) (v := .int 0) (C := RX10) (T := TX10) (N := 37) hx hb hts inG_X10 hown hK hP 0 rfl rfl 1 (by decide) (hts _ kw_4_196) (fun _ h9 => h9) rfl dX10_feed_83 ?_
          refine lv_iload hx hb dX10_feed_86 (lv_at hl 7 rfl) ?_
          refine lv_iadd hx hb dX10_feed_88 ?_
          refine lv_topi (fun z_27 ez_27 => ?_)
          obtain rfl : z_27 = nI (0 + i) := ez_27.trans (nI_add 0 i)
          refine lv_iload hx hb dX10_feed_89 (lv_at hl 0 rfl) ?_
          refine lv_bipush (v := 24) hx hb dX10_feed_91 (by decide) ?_
          refine lv_bipush (v := 8) hx hb dX10_feed_93 (by decide) ?_
          refine lv_iload hx hb dX10_feed_95 (lv_at hl 7 rfl) ?_
          refine lv_iconst (v := 4) hx hb dX10_feed_97 (by decide) ?_
          refine lv_irem hx hb dX10_feed_98 (by decide) ?_
          refine lv_topi (fun z_28 ez_28 => ?_)
          obtain rfl : z_28 = nI (i % 4) := ez_28.trans (pk_rem (a := i) (d := 4) (by omega) (by decide) (by decide))
          refine lv_imul hx hb dX10_feed_99 ?_
          refine lv_topi (fun z_29 ez_29 => ?_)
          obtain rfl : z_29 = nI (8 * (i % 4)) := ez_29.trans (pk_mul 8 (i % 4))
          refine lv_isub hx hb dX10_feed_100 ?_
          refine lv_topi (fun z_30 ez_30 => ?_)
          refine lv_ishr hx hb dX10_feed_101 ?_
          refine lv_topi (fun z_31 ez_31 => ?_)
          refine lv_sipush (v := 255) hx hb dX10_feed_102 (by decide) ?_
          refine lv_iand hx hb dX10_feed_105 ?_
          refine lv_topi (fun z_32 ez_32 => ?_)
          refine m_iast hx hb hK hP hD hS 1 0 rfl rfl (0 + i) rfl (by omega) (by decide) dX10_feed_106 (fun g_33 H locs eg_33 hP hD hS => ?_)
          have hP : va_P D vwCl [(h0, .inr (9, [.ref m_tape, .int 0, .int 0, .ref m_rule, .ref m_rules, .int 0, .ref m_stair, .int 0, .int 0, .int ((-1)), .int 5, .int 5, .ref m_low, .ref m_high, .ref m_crack, .int 0, .ref m_weight, .ref m_fire, .ref m_crowd, .ref m_state, .ref m_where, .int 0, .int 0, .int 0, .ref m_words, .int 0, .int 0, .int 0, .int 0, .int 0, .int 0, .ref m_told, .ref m_breaks, .ref m_row, .ref m_tried, .ref m_steps, .ref m_paths])), (m_tape, .inl (y_tape, 400, .inl g_33))] H := hP
          have hD : va_D A [(h0, .inr (9, [.ref m_tape, .int 0, .int 0, .ref m_rule, .ref m_rules, .int 0, .ref m_stair, .int 0, .int 0, .int ((-1)), .int 5, .int 5, .ref m_low, .ref m_high, .ref m_crack, .int 0, .ref m_weight, .ref m_fire, .ref m_crowd, .ref m_state, .ref m_where, .int 0, .int 0, .int 0, .ref m_words, .int 0, .int 0, .int 0, .int 0, .int 0, .int 0, .ref m_told, .ref m_breaks, .ref m_row, .ref m_tried, .ref m_steps, .ref m_paths])), (m_tape, .inl (y_tape, 400, .inl g_33))] := hD
          refine lv_iinc (v := nI (i + 1)) (lv' := [(6, .int (nI (i + 1))), (7, .int a2), (0, .ref h0), (1, .int a1), (2, .int a2), (3, .int a3), (4, .int a4), (5, .int a5)]) hx hb dX10_feed_107 hl (k := 7) rfl (nI_add i 1) (by decide) rfl (fun ls hl => ?_)
          refine lv_goto (tgt := 23) hx hb dX10_feed_110 (by decide) ?_
          exact ih g_33 (i + 1) (by omega) (by omega) H locs (hP.sub [0, 1] rfl) (hD.sub [0, 1] (by decide) rfl) hS ls (lv_sub hl [2, 3, 4, 5, 6, 7, 0] rfl)
      · skip
        have c_2n : i < 4 := nb_le (by omega) (by omega) c_2
        have c_2 := Int32.not_le.mp c_2
        refine lv_iload_n hx hb dX10_feed_36 rfl (lv_at hl 1 rfl) ?_
        refine lv_goto (tgt := 76) hx hb dX10_feed_37 (by decide) ?_
        refine lv_istore (lv' := [(7, .int a1), (0, .ref h0), (1, .int a1), (2, .int a2), (3, .int a3), (4, .int a4), (5, .int a5), (6, .int (nI i))]) hx hb dX10_feed_76 hl (by decide) rfl (fun ls hl => ?_)
        refine lv_aload_n hx hb dX10_feed_78 rfl (lv_at hl 1 rfl) ?_
        refine va_get (D := D) (ci := 9) (v := .ref m_tape) (C := RX10) (T := TX10) (N := 37) hx hb hts inG_X10 hown hK hP 0 rfl rfl 0 (by decide) (hts _ kw_4_195) (fun _ h9 => h9) rfl dX10_feed_79 ?_
        refine lv_aload_n hx hb dX10_feed_82 rfl (lv_at hl 1 rfl) ?_
        refine va_get (D := D) (ci := 9) (v := .int 0) (C := RX10) (T := TX10) (N := 37) hx hb hts inG_X10 hown hK hP 0 rfl rfl 1 (by decide) (hts _ kw_4_196) (fun _ h9 => h9) rfl dX10_feed_83 ?_
        refine lv_iload hx hb dX10_feed_86 (lv_at hl 7 rfl) ?_
        refine lv_iadd hx hb dX10_feed_88 ?_
        refine lv_topi (fun z_34 ez_34 => ?_)
        obtain rfl : z_34 = nI (0 + i) := ez_34.trans (nI_add 0 i)
        refine lv_iload hx hb dX10_feed_89 (lv_at hl 0 rfl) ?_
        refine lv_bipush (v := 24) hx hb dX10_feed_91 (by decide) ?_
        refine lv_bipush (v := 8) hx hb dX10_feed_93 (by decide) ?_
        refine lv_iload hx hb dX10_feed_95 (lv_at hl 7 rfl) ?_
        refine lv_iconst (v := 4) hx hb dX10_feed_97 (by decide) ?_
        refine lv_irem hx hb dX10_feed_98 (by decide) ?_
        refine lv_topi (fun z_35 ez_35 => ?_)
        obtain rfl : z_35 = nI (i % 4) := ez_35.trans (pk_rem (a := i) (d := 4) (by omega) (by decide) (by decide))
        refine lv_imul hx hb dX10_feed_99 ?_
        refine lv_topi (fun z_36 ez_36 => ?_)
        obtain rfl : z_36 = nI (8 * (i % 4)) := ez_36.trans (pk_mul 8 (i % 4))
        refine lv_isub hx hb dX10_feed_100 ?_
        refine lv_topi (fun z_37 ez_37 => ?_)
        refine lv_ishr hx hb dX10_feed_101 ?_
        refine lv_topi (fun z_38 ez_38 => ?_)
        refine lv_sipush (v := 255) hx hb dX10_feed_102 (by decide) ?_
        refine lv_iand hx hb dX10_feed_105 ?_
        refine lv_topi (fun z_39 ez_39 => ?_)
        refine m_iast hx hb hK hP hD hS 1 0 rfl rfl (0 + i) rfl (by omega) (by decide) dX10_feed_106 (fun g_40 H locs eg_40 hP hD hS => ?_)
        have hP : va_P D vwCl [(h0, .inr (9, [.ref m_tape, .int 0, .int 0, .ref m_rule, .ref m_rules, .int 0, .ref m_stair, .int 0, .int 0, .int ((-1)), .int 5, .int 5, .ref m_low, .ref m_high, .ref m_crack, .int 0, .ref m_weight, .ref m_fire, .ref m_crowd, .ref m_state, .ref m_where, .int 0, .int 0, .int 0, .ref m_words, .int 0, .int 0, .int 0, .int 0, .int 0, .int 0, .ref m_told, .ref m_breaks, .ref m_row, .ref m_tried, .ref m_steps, .ref m_paths])), (m_tape, .inl (y_tape, 400, .inl g_40))] H := hP
        have hD : va_D A [(h0, .inr (9, [.ref m_tape, .int 0, .int 0, .ref m_rule, .ref m_rules, .int 0, .ref m_stair, .int 0, .int 0, .int ((-1)), .int 5, .int 5, .ref m_low, .ref m_high, .ref m_crack, .int 0, .ref m_weight, .ref m_fire, .ref m_crowd, .ref m_state, .ref m_where, .int 0, .int 0, .int 0, .ref m_words, .int 0, .int 0, .int 0, .int 0, .int 0, .int 0, .ref m_told, .ref m_breaks, .ref m_row, .ref m_tried, .ref m_steps, .ref m_paths])), (m_tape, .inl (y_tape, 400, .inl g_40))] := hD
        refine lv_iinc (v := nI (i + 1)) (lv' := [(6, .int (nI (i + 1))), (7, .int a1), (0, .ref h0), (1, .int a1), (2, .int a2), (3, .int a3), (4, .int a4), (5, .int a5)]) hx hb dX10_feed_107 hl (k := 7) rfl (nI_add i 1) (by decide) rfl (fun ls hl => ?_)
        refine lv_goto (tgt := 23) hx hb dX10_feed_110 (by decide) ?_
        exact ih g_40 (i + 1) (by omega) (by omega) H locs (hP.sub [0, 1] rfl) (hD.sub [0, 1] (by decide) rfl) hS ls (lv_sub hl [2, 3, 4, 5, 6, 7, 0] rfl)
theorem dX10_feed_0 : decode cX10_feed 0 = .ok (.aload_n 0, 1) := by decide +kernel
theorem dX10_feed_1 : decode cX10_feed 1 = .ok (.iconst 0, 1) := by decide +kernel
theorem dX10_feed_2 : decode cX10_feed 2 = .ok (.putfield 78, 3) := by decide +kernel
theorem dX10_feed_5 : decode cX10_feed 5 = .ok (.aload_n 0, 1) := by decide +kernel
theorem dX10_feed_6 : decode cX10_feed 6 = .ok (.getfield 81, 3) := by decide +kernel
theorem dX10_feed_9 : decode cX10_feed 9 = .ok (.bipush 20, 2) := by decide +kernel
theorem dX10_feed_11 : decode cX10_feed 11 = .ok (.iadd, 1) := by decide +kernel
theorem dX10_feed_12 : decode cX10_feed 12 = .ok (.sipush 400, 3) := by decide +kernel
theorem dX10_feed_15 : decode cX10_feed 15 = .ok (.if_icmp .le 5, 3) := by decide +kernel
theorem dX10_feed_20 : decode cX10_feed 20 = .ok (.iconst 0, 1) := by decide +kernel
theorem dX10_feed_21 : decode cX10_feed 21 = .ok (.istore 6, 2) := by decide +kernel
theorem dX10_feed_113 : decode cX10_feed 113 = .ok (.aload_n 0, 1) := by decide +kernel
theorem dX10_feed_114 : decode cX10_feed 114 = .ok (.dup, 1) := by decide +kernel
theorem dX10_feed_115 : decode cX10_feed 115 = .ok (.getfield 81, 3) := by decide +kernel
theorem dX10_feed_118 : decode cX10_feed 118 = .ok (.bipush 20, 2) := by decide +kernel
theorem dX10_feed_120 : decode cX10_feed 120 = .ok (.iadd, 1) := by decide +kernel
theorem dX10_feed_121 : decode cX10_feed 121 = .ok (.putfield 81, 3) := by decide +kernel
theorem dX10_feed_124 : decode cX10_feed 124 = .ok (.aload_n 0, 1) := by decide +kernel
theorem dX10_feed_125 : decode cX10_feed 125 = .ok (.getfield 81, 3) := by decide +kernel
theorem dX10_feed_128 : decode cX10_feed 128 = .ok (.ireturn, 1) := by decide +kernel
set_option maxHeartbeats 4000000 in
set_option maxRecDepth 100000 in
theorem m_feed (l : Launch) (D : va_G) (h0 : Nat) (m_tape : Nat) (m_rule : Nat) (m_rules : Nat) (m_stair : Nat) (m_low : Nat) (m_high : Nat) (m_crack : Nat) (m_weight : Nat) (m_fire : Nat) (m_crowd : Nat) (m_state : Nat) (m_where : Nat) (m_words : Nat) (m_told : Nat) (m_breaks : Nat) (m_row : Nat) (m_tried : Nat) (m_steps : Nat) (m_paths : Nat) (y_tape : ClassId) (f_tape : Nat → Int32) (a1 : Int32) (a2 : Int32) (a3 : Int32) (a4 : Int32) (a5 : Int32) : cI l yX10_feed (.code yX10_feed cX10_feed 8 (some .int)) ({ frames := 0, cells := 0, slots := 0, locals := 0 }) D [(y_tape, .int)] [(h0, .inr (9, [.ref m_tape, .int 0, .int 0, .ref m_rule, .ref m_rules, .int 0, .ref m_stair, .int 0, .int 0, .int ((-1)), .int 5, .int 5, .ref m_low, .ref m_high, .ref m_crack, .int 0, .ref m_weight, .ref m_fire, .ref m_crowd, .ref m_state, .ref m_where, .int 0, .int 0, .int 0, .ref m_words, .int 0, .int 0, .int 0, .int 0, .int 0, .int 0, .ref m_told, .ref m_breaks, .ref m_row, .ref m_tried, .ref m_steps, .ref m_paths])), (m_tape, .inl (y_tape, 400, .inl f_tape))] xT [.ref h0, .int a1, .int a2, .int a3, .int a4, .int a5] (S := Unit) (fun r _ => r = 20) (fun _ => []) (fun _ => []) := by
  intro sz
  refine Met.ofW (cc := cX10_feed) (maxL := 8) (ret := (some .int)) (by decide) rfl ?_
  intro p e s m args below meth c s₁ B hml hv
  obtain ⟨rfl, hsz, hP, hK, hD0, hX⟩ := hv
  have hx := B.exec
  have hb := B.bytes
  have hr := B.returns
  have hts0 := atoms_spec (ws := .code yX10_feed cX10_feed 8 (some .int) :: gw) B.pre
  have hts := fun (w : Cond) (h : w ∈ gw) => hts0 w (List.mem_cons_of_mem _ h)
  have hown : s.vm.findClass RX10 = some m.cls := findClass_of_methodNamed B.named
  have hlocks := B.notSynchronized
  have F : mFix p s m _ c cX10_feed 8 RX10 := ⟨hx, hb, hml, hown, hts⟩
  subst hsz
  have hD := hD0.self (sz := s.heap.size)
  generalize hAe : va_A [(h0, .inr (9, [.ref m_tape, .int 0, .int 0, .ref m_rule, .ref m_rules, .int 0, .ref m_stair, .int 0, .int 0, .int ((-1)), .int 5, .int 5, .ref m_low, .ref m_high, .ref m_crack, .int 0, .ref m_weight, .ref m_fire, .ref m_crowd, .ref m_state, .ref m_where, .int 0, .int 0, .int 0, .ref m_words, .int 0, .int 0, .int 0, .int 0, .int 0, .int 0, .ref m_told, .ref m_breaks, .ref m_row, .ref m_tried, .ref m_steps, .ref m_paths])), (m_tape, .inl (y_tape, 400, .inl f_tape))] s.heap.size = A at hD hX ⊢
  have hA : ∀ q : Nat, s.heap.size ≤ q → A q := fun q h => by rw [← hAe]; exact Or.inr h
  have hS : va_S A s.heap s.heap [] := va_S.rf
  have hl := lv_entry ([.ref h0, .int a1, .int a2, .int a3, .int a4, .int a5]) (n := 8) (Nat.le_of_ble_eq_true rfl)
  rw [lg_entry_eq]
  generalize (lg_sl ([.ref h0, .int a1, .int a2, .int a3, .int a4, .int a5]) ++ List.replicate (8 - (lg_sl ([.ref h0, .int a1, .int a2, .int a3, .int a4, .int a5])).length) Slot.unset).toArray = ls at hl ⊢
  have hl : lv_has ls 8 [(0, .ref h0), (1, .int a1), (2, .int a2), (3, .int a3), (4, .int a4), (5, .int a5)] := hl
  have hP : va_P D vwCl [(h0, .inr (9, [.ref m_tape, .int 0, .int 0, .ref m_rule, .ref m_rules, .int 0, .ref m_stair, .int 0, .int 0, .int ((-1)), .int 5, .int 5, .ref m_low, .ref m_high, .ref m_crack, .int 0, .ref m_weight, .ref m_fire, .ref m_crowd, .ref m_state, .ref m_where, .int 0, .int 0, .int 0, .ref m_words, .int 0, .int 0, .int 0, .int 0, .int 0, .int 0, .ref m_told, .ref m_breaks, .ref m_row, .ref m_tried, .ref m_steps, .ref m_paths])), (m_tape, .inl (y_tape, 400, .inl f_tape))] s.heap := hP
  refine lv_aload_n hx hb dX10_feed_0 rfl (lv_at hl 0 rfl) ?_
  refine lv_iconst (v := 0) hx hb dX10_feed_1 (by decide) ?_
  refine va_put (D := D) (ci := 9) (v := .int 0) (ty := .int) (C := RX10) (T := TX10) (N := 37) hx hb hts inG_X10 tyX10 tyX10_ok nmX10 hown hK hP hD hS 0 rfl rfl 2 (by decide) (hts _ kw_4_197) (fun _ h9 => h9) rfl (by decide +kernel) rfl rfl (Nat.le_of_ble_eq_true rfl) dX10_feed_2 (fun H locs hP hD hS => ?_)
  have hP : va_P D vwCl [(h0, .inr (9, [.ref m_tape, .int 0, .int 0, .ref m_rule, .ref m_rules, .int 0, .ref m_stair, .int 0, .int 0, .int ((-1)), .int 5, .int 5, .ref m_low, .ref m_high, .ref m_crack, .int 0, .ref m_weight, .ref m_fire, .ref m_crowd, .ref m_state, .ref m_where, .int 0, .int 0, .int 0, .ref m_words, .int 0, .int 0, .int 0, .int 0, .int 0, .int 0, .ref m_told, .ref m_breaks, .ref m_row, .ref m_tried, .ref m_steps, .ref m_paths])), (m_tape, .inl (y_tape, 400, .inl f_tape))] H := hP
  have hD : va_D A [(h0, .inr (9, [.ref m_tape, .int 0, .int 0, .ref m_rule, .ref m_rules, .int 0, .ref m_stair, .int 0, .int 0, .int ((-1)), .int 5, .int 5, .ref m_low, .ref m_high, .ref m_crack, .int 0, .ref m_weight, .ref m_fire, .ref m_crowd, .ref m_state, .ref m_where, .int 0, .int 0, .int 0, .ref m_words, .int 0, .int 0, .int 0, .int 0, .int 0, .int 0, .ref m_told, .ref m_breaks, .ref m_row, .ref m_tried, .ref m_steps, .ref m_paths])), (m_tape, .inl (y_tape, 400, .inl f_tape))] := hD
  refine lv_aload_n hx hb dX10_feed_5 rfl (lv_at hl 0 rfl) ?_
  refine va_get (D := D) (ci := 9) (v := .int 0) (C := RX10) (T := TX10) (N := 37) hx hb hts inG_X10 hown hK hP 0 rfl rfl 1 (by decide) (hts _ kw_4_196) (fun _ h9 => h9) rfl dX10_feed_6 ?_
  refine lv_bipush (v := 20) hx hb dX10_feed_9 (by decide) ?_
  refine lv_iadd hx hb dX10_feed_11 ?_
  refine lv_topi (fun z_1 ez_1 => ?_)
  obtain rfl : z_1 = (20 : Int32) := ez_1.trans (by decide)
  refine lv_sipush (v := 400) hx hb dX10_feed_12 (by decide) ?_
  refine lv_icmp_le (tgt := 20) hx hb dX10_feed_15 (by decide) (fun c_2 => ?_) (fun c_2 => absurd c_2 (by decide))
  refine lv_iconst (v := 0) hx hb dX10_feed_20 (by decide) ?_
  refine lv_istore (lv' := [(6, .int 0), (0, .ref h0), (1, .int a1), (2, .int a2), (3, .int a3), (4, .int a4), (5, .int a5)]) hx hb dX10_feed_21 hl (by decide) rfl (fun ls hl => ?_)
  refine lp_m_feed F hA h0 m_tape m_rule m_rules m_stair m_low m_high m_crack m_weight m_fire m_crowd m_state m_where m_words m_told m_breaks m_row m_tried m_steps m_paths y_tape a1 a2 a3 a4 a5 (hK.sub [0] rfl) (fun g_3  H locs hP hD hS ls hl => ?_) _ f_tape 0 (by omega) (Nat.lt_succ_self _) _ _ (hP.sub [0, 1] rfl) (hD.sub [0, 1] (by decide) rfl) hS ls (lv_sub hl [1, 2, 3, 4, 5, 6, 0] rfl)
  refine lv_aload_n hx hb dX10_feed_113 rfl (lv_at hl 0 rfl) ?_
  refine lv_dup hx hb dX10_feed_114 rfl ?_
  refine va_get (D := D) (ci := 9) (v := .int 0) (C := RX10) (T := TX10) (N := 37) hx hb hts inG_X10 hown hK hP 0 rfl rfl 1 (by decide) (hts _ kw_4_196) (fun _ h9 => h9) rfl dX10_feed_115 ?_
  refine lv_bipush (v := 20) hx hb dX10_feed_118 (by decide) ?_
  refine lv_iadd hx hb dX10_feed_120 ?_
  refine lv_topi (fun z_4 ez_4 => ?_)
  obtain rfl : z_4 = (20 : Int32) := ez_4.trans (by decide)
  refine va_put (D := D) (ci := 9) (v := .int 20) (ty := .int) (C := RX10) (T := TX10) (N := 37) hx hb hts inG_X10 tyX10 tyX10_ok nmX10 hown hK hP hD hS 0 rfl rfl 1 (by decide) (hts _ kw_4_196) (fun _ h9 => h9) rfl (by decide +kernel) rfl rfl (Nat.le_of_ble_eq_true rfl) dX10_feed_121 (fun H locs hP hD hS => ?_)
  have hP : va_P D vwCl [(h0, .inr (9, [.ref m_tape, .int 20, .int 0, .ref m_rule, .ref m_rules, .int 0, .ref m_stair, .int 0, .int 0, .int ((-1)), .int 5, .int 5, .ref m_low, .ref m_high, .ref m_crack, .int 0, .ref m_weight, .ref m_fire, .ref m_crowd, .ref m_state, .ref m_where, .int 0, .int 0, .int 0, .ref m_words, .int 0, .int 0, .int 0, .int 0, .int 0, .int 0, .ref m_told, .ref m_breaks, .ref m_row, .ref m_tried, .ref m_steps, .ref m_paths])), (m_tape, .inl (y_tape, 400, .inl g_3))] H := hP
  have hD : va_D A [(h0, .inr (9, [.ref m_tape, .int 20, .int 0, .ref m_rule, .ref m_rules, .int 0, .ref m_stair, .int 0, .int 0, .int ((-1)), .int 5, .int 5, .ref m_low, .ref m_high, .ref m_crack, .int 0, .ref m_weight, .ref m_fire, .ref m_crowd, .ref m_state, .ref m_where, .int 0, .int 0, .int 0, .ref m_words, .int 0, .int 0, .int 0, .int 0, .int 0, .int 0, .ref m_told, .ref m_breaks, .ref m_row, .ref m_tried, .ref m_steps, .ref m_paths])), (m_tape, .inl (y_tape, 400, .inl g_3))] := hD
  refine lv_aload_n hx hb dX10_feed_124 rfl (lv_at hl 0 rfl) ?_
  refine va_get (D := D) (ci := 9) (v := .int 20) (C := RX10) (T := TX10) (N := 37) hx hb hts inG_X10 hown hK hP 0 rfl rfl 1 (by decide) (hts _ kw_4_196) (fun _ h9 => h9) rfl dX10_feed_125 ?_
  have hP9 := hP.sub (ws' := []) [] rfl
  have hD9 := hD.sub (ws' := []) [] (by decide) rfl
  have hK9 := hK.sub (tys' := []) [] rfl
  refine W.widen (k := 0) (n := 0) (by decide) (by decide) ?_
  exact W.iret (v := 20) hx hb hr (fun t ht hW => ⟨⟨20, (), rfl, rfl, by rw [ht]; exact hP9, va_K.moved hW.alike hK9, hD9⟩, hS.F ht⟩) hS.2.2 dX10_feed_128
theorem dX10_take_0 : decode cX10_take 0 = .ok (.aload_n 0, 1) := by decide +kernel
theorem kw_4_221 : Cond.fieldLink RX10 90 "IceFairModel" "next" "I" ∈ gw := gw_t4 (List.mem_of_getElem? (i := 221) (by decide +kernel)) (by decide +kernel)
theorem dX10_take_1 : decode cX10_take 1 = .ok (.getfield 90, 3) := by decide +kernel
theorem dX10_take_4 : decode cX10_take 4 = .ok (.aload_n 0, 1) := by decide +kernel
theorem kw_4_220 : Cond.fieldLink RX10 87 "IceFairModel" "end" "I" ∈ gw := gw_t4 (List.mem_of_getElem? (i := 220) (by decide +kernel)) (by decide +kernel)
theorem dX10_take_5 : decode cX10_take 5 = .ok (.getfield 87, 3) := by decide +kernel
theorem dX10_take_8 : decode cX10_take 8 = .ok (.if_icmp .ge 44, 3) := by decide +kernel
theorem dX10_take_52 : decode cX10_take 52 = .ok (.aload_n 0, 1) := by decide +kernel
theorem dX10_take_53 : decode cX10_take 53 = .ok (.aload_n 0, 1) := by decide +kernel
theorem dX10_take_54 : decode cX10_take 54 = .ok (.getfield 90, 3) := by decide +kernel
theorem kw_4_224 : Cond.fieldLink RX10 93 "IceFairModel" "place" "I" ∈ gw := gw_t4 (List.mem_of_getElem? (i := 224) (by decide +kernel)) (by decide +kernel)
theorem dX10_take_57 : decode cX10_take 57 = .ok (.putfield 93, 3) := by decide +kernel
theorem dX10_take_60 : decode cX10_take 60 = .ok (.aload_n 0, 1) := by decide +kernel
theorem dX10_take_61 : decode cX10_take 61 = .ok (.getfield 90, 3) := by decide +kernel
theorem dX10_take_64 : decode cX10_take 64 = .ok (.aload_n 0, 1) := by decide +kernel
theorem dX10_take_65 : decode cX10_take 65 = .ok (.getfield 87, 3) := by decide +kernel
theorem dX10_take_68 : decode cX10_take 68 = .ok (.if_icmp .ne 11, 3) := by decide +kernel
theorem dX10_take_71 : decode cX10_take 71 = .ok (.aload_n 0, 1) := by decide +kernel
theorem dX10_take_72 : decode cX10_take 72 = .ok (.iconst 0, 1) := by decide +kernel
theorem kw_4_222 : Cond.fieldLink RX10 96 "IceFairModel" "kind" "I" ∈ gw := gw_t4 (List.mem_of_getElem? (i := 222) (by decide +kernel)) (by decide +kernel)
theorem dX10_take_73 : decode cX10_take 73 = .ok (.putfield 96, 3) := by decide +kernel
theorem dX10_take_76 : decode cX10_take 76 = .ok (.goto 192, 3) := by decide +kernel
theorem dX10_take_268 : decode cX10_take 268 = .ok (.return_, 1) := by decide +kernel
set_option maxHeartbeats 4000000 in
set_option maxRecDepth 100000 in
theorem m_take0 (l : Launch) (D : va_G) (h0 : Nat) (m_tape : Nat) (m_rule : Nat) (m_rules : Nat) (m_stair : Nat) (m_low : Nat) (m_high : Nat) (m_crack : Nat) (m_weight : Nat) (m_fire : Nat) (m_crowd : Nat) (m_state : Nat) (m_where : Nat) (m_words : Nat) (m_told : Nat) (m_breaks : Nat) (m_row : Nat) (m_tried : Nat) (m_steps : Nat) (m_paths : Nat) (s_tapeSize : Int32) (s_thrown : Int32) (s_stairs : Int32) (s_readStairs : Int32) (s_fault : Int32) (s_faultPlace : Int32) (s_wide : Int32) (s_tall : Int32) (s_booths : Int32) (s_hours : Int32) (s_fees : Int32) (s_looks : Int32) (s_kind : Int32) (s_which : Int32) (s_place : Int32) (s_read : Int32) : cV l yX10_take (.code yX10_take cX10_take 1 none) ({ frames := 1, cells := 0, slots := 0, locals := 27 }) D [] [(h0, .inr (9, [.ref m_tape, .int s_tapeSize, .int s_thrown, .ref m_rule, .ref m_rules, .int s_stairs, .ref m_stair, .int s_readStairs, .int s_fault, .int s_faultPlace, .int s_wide, .int s_tall, .ref m_low, .ref m_high, .ref m_crack, .int s_booths, .ref m_weight, .ref m_fire, .ref m_crowd, .ref m_state, .ref m_where, .int s_hours, .int s_fees, .int s_looks, .ref m_words, .int 0, .int 0, .int s_kind, .int s_which, .int s_place, .int s_read, .ref m_told, .ref m_breaks, .ref m_row, .ref m_tried, .ref m_steps, .ref m_paths]))] xT [.ref h0] (S := Unit) (fun _ => True) (fun _ => []) (fun _ => [(h0, .inr (9, [.ref m_tape, .int s_tapeSize, .int s_thrown, .ref m_rule, .ref m_rules, .int s_stairs, .ref m_stair, .int s_readStairs, .int s_fault, .int s_faultPlace, .int s_wide, .int s_tall, .ref m_low, .ref m_high, .ref m_crack, .int s_booths, .ref m_weight, .ref m_fire, .ref m_crowd, .ref m_state, .ref m_where, .int s_hours, .int s_fees, .int s_looks, .ref m_words, .int 0, .int 0, .int 0, .int s_which, .int 0, .int s_read, .ref m_told, .ref m_breaks, .ref m_row, .ref m_tried, .ref m_steps, .ref m_paths]))]) := by
  intro sz
  refine Met.ofW (cc := cX10_take) (maxL := 1) (ret := none) (by decide) rfl ?_
  intro p e s m args below meth c s₁ B hml hv
  obtain ⟨rfl, hsz, hP, hK, hD0, hX⟩ := hv
  have hx := B.exec
  have hb := B.bytes
  have hr := B.returns
  have hts0 := atoms_spec (ws := .code yX10_take cX10_take 1 none :: gw) B.pre
  have hts := fun (w : Cond) (h : w ∈ gw) => hts0 w (List.mem_cons_of_mem _ h)
  have hown : s.vm.findClass RX10 = some m.cls := findClass_of_methodNamed B.named
  have hlocks := B.notSynchronized
  have F : mFix p s m _ c cX10_take 1 RX10 := ⟨hx, hb, hml, hown, hts⟩
  subst hsz
  have hD := hD0.self (sz := s.heap.size)
  generalize hAe : va_A [(h0, .inr (9, [.ref m_tape, .int s_tapeSize, .int s_thrown, .ref m_rule, .ref m_rules, .int s_stairs, .ref m_stair, .int s_readStairs, .int s_fault, .int s_faultPlace, .int s_wide, .int s_tall, .ref m_low, .ref m_high, .ref m_crack, .int s_booths, .ref m_weight, .ref m_fire, .ref m_crowd, .ref m_state, .ref m_where, .int s_hours, .int s_fees, .int s_looks, .ref m_words, .int 0, .int 0, .int s_kind, .int s_which, .int s_place, .int s_read, .ref m_told, .ref m_breaks, .ref m_row, .ref m_tried, .ref m_steps, .ref m_paths]))] s.heap.size = A at hD hX ⊢
  have hA : ∀ q : Nat, s.heap.size ≤ q → A q := fun q h => by rw [← hAe]; exact Or.inr h
  have hS : va_S A s.heap s.heap [] := va_S.rf
  have hl := lv_entry ([.ref h0]) (n := 1) (Nat.le_of_ble_eq_true rfl)
  rw [lg_entry_eq]
  generalize (lg_sl ([.ref h0]) ++ List.replicate (1 - (lg_sl ([.ref h0])).length) Slot.unset).toArray = ls at hl ⊢
  have hl : lv_has ls 1 [(0, .ref h0)] := hl
  have hP : va_P D vwCl [(h0, .inr (9, [.ref m_tape, .int s_tapeSize, .int s_thrown, .ref m_rule, .ref m_rules, .int s_stairs, .ref m_stair, .int s_readStairs, .int s_fault, .int s_faultPlace, .int s_wide, .int s_tall, .ref m_low, .ref m_high, .ref m_crack, .int s_booths, .ref m_weight, .ref m_fire, .ref m_crowd, .ref m_state, .ref m_where, .int s_hours, .int s_fees, .int s_looks, .ref m_words, .int 0, .int 0, .int s_kind, .int s_which, .int s_place, .int s_read, .ref m_told, .ref m_breaks, .ref m_row, .ref m_tried, .ref m_steps, .ref m_paths]))] s.heap := hP
  refine lv_aload_n hx hb dX10_take_0 rfl (lv_at hl 0 rfl) ?_
  refine va_get (D := D) (ci := 9) (v := .int 0) (C := RX10) (T := TX10) (N := 37) hx hb hts inG_X10 hown hK hP 0 rfl rfl 26 (by decide) (hts _ kw_4_221) (fun _ h9 => h9) rfl dX10_take_1 ?_
  refine lv_aload_n hx hb dX10_take_4 rfl (lv_at hl 0 rfl) ?_
  refine va_get (D := D) (ci := 9) (v := .int 0) (C := RX10) (T := TX10) (N := 37) hx hb hts inG_X10 hown hK hP 0 rfl rfl 25 (by decide) (hts _ kw_4_220) (fun _ h9 => h9) rfl dX10_take_5 ?_
  refine lv_icmp_ge (tgt := 52) hx hb dX10_take_8 (by decide) (fun c_1 => ?_) (fun c_1 => absurd c_1 (by decide))
  refine lv_aload_n hx hb dX10_take_52 rfl (lv_at hl 0 rfl) ?_
  refine lv_aload_n hx hb dX10_take_53 rfl (lv_at hl 0 rfl) ?_
  refine va_get (D := D) (ci := 9) (v := .int 0) (C := RX10) (T := TX10) (N := 37) hx hb hts inG_X10 hown hK hP 0 rfl rfl 26 (by decide) (hts _ kw_4_221) (fun _ h9 => h9) rfl dX10_take_54 ?_
  refine va_put (D := D) (ci := 9) (v := .int 0) (ty := .int) (C := RX10) (T := TX10) (N := 37) hx hb hts inG_X10 tyX10 tyX10_ok nmX10 hown hK hP hD hS 0 rfl rfl 29 (by decide) (hts _ kw_4_224) (fun _ h9 => h9) rfl (by decide +kernel) rfl rfl (Nat.le_of_ble_eq_true rfl) dX10_take_57 (fun H locs hP hD hS => ?_)
  have hP : va_P D vwCl [(h0, .inr (9, [.ref m_tape, .int s_tapeSize, .int s_thrown, .ref m_rule, .ref m_rules, .int s_stairs, .ref m_stair, .int s_readStairs, .int s_fault, .int s_faultPlace, .int s_wide, .int s_tall, .ref m_low, .ref m_high, .ref m_crack, .int s_booths, .ref m_weight, .ref m_fire, .ref m_crowd, .ref m_state, .ref m_where, .int s_hours, .int s_fees, .int s_looks, .ref m_words, .int 0, .int 0, .int s_kind, .int s_which, .int 0, .int s_read, .ref m_told, .ref m_breaks, .ref m_row, .ref m_tried, .ref m_steps, .ref m_paths]))] H := hP
  have hD : va_D A [(h0, .inr (9, [.ref m_tape, .int s_tapeSize, .int s_thrown, .ref m_rule, .ref m_rules, .int s_stairs, .ref m_stair, .int s_readStairs, .int s_fault, .int s_faultPlace, .int s_wide, .int s_tall, .ref m_low, .ref m_high, .ref m_crack, .int s_booths, .ref m_weight, .ref m_fire, .ref m_crowd, .ref m_state, .ref m_where, .int s_hours, .int s_fees, .int s_looks, .ref m_words, .int 0, .int 0, .int s_kind, .int s_which, .int 0, .int s_read, .ref m_told, .ref m_breaks, .ref m_row, .ref m_tried, .ref m_steps, .ref m_paths]))] := hD
  refine lv_aload_n hx hb dX10_take_60 rfl (lv_at hl 0 rfl) ?_
  refine va_get (D := D) (ci := 9) (v := .int 0) (C := RX10) (T := TX10) (N := 37) hx hb hts inG_X10 hown hK hP 0 rfl rfl 26 (by decide) (hts _ kw_4_221) (fun _ h9 => h9) rfl dX10_take_61 ?_
  refine lv_aload_n hx hb dX10_take_64 rfl (lv_at hl 0 rfl) ?_
  refine va_get (D := D) (ci := 9) (v := .int 0) (C := RX10) (T := TX10) (N := 37) hx hb hts inG_X10 hown hK hP 0 rfl rfl 25 (by decide) (hts _ kw_4_220) (fun _ h9 => h9) rfl dX10_take_65 ?_
  refine lv_icmp_ne (tgt := 79) hx hb dX10_take_68 (by decide) (fun c_2 => absurd c_2 (by decide)) (fun c_2 => ?_)
  refine lv_aload_n hx hb dX10_take_71 rfl (lv_at hl 0 rfl) ?_
  refine lv_iconst (v := 0) hx hb dX10_take_72 (by decide) ?_
  refine va_put (D := D) (ci := 9) (v := .int 0) (ty := .int) (C := RX10) (T := TX10) (N := 37) hx hb hts inG_X10 tyX10 tyX10_ok nmX10 hown hK hP hD hS 0 rfl rfl 27 (by decide) (hts _ kw_4_222) (fun _ h9 => h9) rfl (by decide +kernel) rfl rfl (Nat.le_of_ble_eq_true rfl) dX10_take_73 (fun H locs hP hD hS => ?_)
  have hP : va_P D vwCl [(h0, .inr (9, [.ref m_tape, .int s_tapeSize, .int s_thrown, .ref m_rule, .ref m_rules, .int s_stairs, .ref m_stair, .int s_readStairs, .int s_fault, .int s_faultPlace, .int s_wide, .int s_tall, .ref m_low, .ref m_high, .ref m_crack, .int s_booths, .ref m_weight, .ref m_fire, .ref m_crowd, .ref m_state, .ref m_where, .int s_hours, .int s_fees, .int s_looks, .ref m_words, .int 0, .int 0, .int 0, .int s_which, .int 0, .int s_read, .ref m_told, .ref m_breaks, .ref m_row, .ref m_tried, .ref m_steps, .ref m_paths]))] H := hP
  have hD : va_D A [(h0, .inr (9, [.ref m_tape, .int s_tapeSize, .int s_thrown, .ref m_rule, .ref m_rules, .int s_stairs, .ref m_stair, .int s_readStairs, .int s_fault, .int s_faultPlace, .int s_wide, .int s_tall, .ref m_low, .ref m_high, .ref m_crack, .int s_booths, .ref m_weight, .ref m_fire, .ref m_crowd, .ref m_state, .ref m_where, .int s_hours, .int s_fees, .int s_looks, .ref m_words, .int 0, .int 0, .int 0, .int s_which, .int 0, .int s_read, .ref m_told, .ref m_breaks, .ref m_row, .ref m_tried, .ref m_steps, .ref m_paths]))] := hD
  refine lv_goto (tgt := 268) hx hb dX10_take_76 (by decide) ?_
  have hP9 := hP.sub (ws' := [(h0, .inr (9, [.ref m_tape, .int s_tapeSize, .int s_thrown, .ref m_rule, .ref m_rules, .int s_stairs, .ref m_stair, .int s_readStairs, .int s_fault, .int s_faultPlace, .int s_wide, .int s_tall, .ref m_low, .ref m_high, .ref m_crack, .int s_booths, .ref m_weight, .ref m_fire, .ref m_crowd, .ref m_state, .ref m_where, .int s_hours, .int s_fees, .int s_looks, .ref m_words, .int 0, .int 0, .int 0, .int s_which, .int 0, .int s_read, .ref m_told, .ref m_breaks, .ref m_row, .ref m_tried, .ref m_steps, .ref m_paths]))]) [0] rfl
  have hD9 := hD.sub (ws' := [(h0, .inr (9, [.ref m_tape, .int s_tapeSize, .int s_thrown, .ref m_rule, .ref m_rules, .int s_stairs, .ref m_stair, .int s_readStairs, .int s_fault, .int s_faultPlace, .int s_wide, .int s_tall, .ref m_low, .ref m_high, .ref m_crack, .int s_booths, .ref m_weight, .ref m_fire, .ref m_crowd, .ref m_state, .ref m_where, .int s_hours, .int s_fees, .int s_looks, .ref m_words, .int 0, .int 0, .int 0, .int s_which, .int 0, .int s_read, .ref m_told, .ref m_breaks, .ref m_row, .ref m_tried, .ref m_steps, .ref m_paths]))]) [0] (by decide) rfl
  have hK9 := hK.sub (tys' := []) [] rfl
  refine W.widen (k := 0) (n := 0) (by decide) (by decide) ?_
  exact W.vret hx hb hr (fun t ht hW => ⟨⟨(), rfl, trivial, by rw [ht]; exact hP9, va_K.moved hW.alike hK9, hD9⟩, hS.F ht⟩) hS.2.2 dX10_take_268
theorem dX10_customs_42 : decode cX10_customs 42 = .ok (.iload_n 2, 1) := by decide +kernel
theorem dX10_customs_43 : decode cX10_customs 43 = .ok (.bipush 7, 2) := by decide +kernel
theorem dX10_customs_45 : decode cX10_customs 45 = .ok (.if_icmp .ge 16, 3) := by decide +kernel
theorem dX10_customs_48 : decode cX10_customs 48 = .ok (.aload_n 0, 1) := by decide +kernel
theorem dX10_customs_49 : decode cX10_customs 49 = .ok (.getfield 60, 3) := by decide +kernel
theorem dX10_customs_52 : decode cX10_customs 52 = .ok (.iload_n 2, 1) := by decide +kernel
theorem dX10_customs_53 : decode cX10_customs 53 = .ok (.iconst 0, 1) := by decide +kernel
theorem dX10_customs_54 : decode cX10_customs 54 = .ok (.bastore, 1) := by decide +kernel
theorem dX10_customs_55 : decode cX10_customs 55 = .ok (.iinc 2 1, 3) := by decide +kernel
theorem dX10_customs_58 : decode cX10_customs 58 = .ok (.goto (-16), 3) := by decide +kernel
set_option maxHeartbeats 4000000 in
set_option maxRecDepth 100000 in
theorem lp_m_cu1 {p : Program} {l : Launch} {e : Env} {s : State} {m : MethodId} {args : Array Value} {below : List Frame} {meth : Method} {c : Code} {Q : State → Prop} {A : Nat → Prop} {D : va_G} (F : mFix p s m args c cX10_customs 4 RX10) (hA : ∀ q, s.heap.size ≤ q → A q) (h0 : Nat) (m_tape : Nat) (m_rule : Nat) (m_rules : Nat) (m_stair : Nat) (m_low : Nat) (m_high : Nat) (m_crack : Nat) (m_weight : Nat) (m_fire : Nat) (m_crowd : Nat) (m_state : Nat) (m_where : Nat) (m_words : Nat) (m_told : Nat) (m_breaks : Nat) (m_row : Nat) (m_tried : Nat) (m_steps : Nat) (m_paths : Nat) (y_told : ClassId) (y_rules : ClassId) (y_rule : ClassId) (y_stair : ClassId) (gb : Nat → Int32) (gc : Nat → Int32) (gd : Nat → Int32) (hK : va_K D vwCl [(y_told, .boolean), (y_rules, .int), (y_rule, .int), (y_stair, .int)] s)
    (kx_61 : ∀ (ga : Nat → Int32), ∀ (H : Heap) (locs : List Loc), va_P D vwCl [(h0, .inr (9, [.ref m_tape, .int 0, .int 0, .ref m_rule, .ref m_rules, .int 0, .ref m_stair, .int 0, .int 0, .int ((-1)), .int 5, .int 5, .ref m_low, .ref m_high, .ref m_crack, .int 0, .ref m_weight, .ref m_fire, .ref m_crowd, .ref m_state, .ref m_where, .int 0, .int 0, .int 0, .ref m_words, .int 0, .int 0, .int 0, .int 0, .int 0, .int 0, .ref m_told, .ref m_breaks, .ref m_row, .ref m_tried, .ref m_steps, .ref m_paths])), (m_told, .inl (y_told, 7, .inl ga)), (m_rules, .inl (y_rules, 8, .inl gb)), (m_rule, .inl (y_rule, 8, .inl gc)), (m_stair, .inl (y_stair, 24, .inl gd))] H → va_D A [(h0, .inr (9, [.ref m_tape, .int 0, .int 0, .ref m_rule, .ref m_rules, .int 0, .ref m_stair, .int 0, .int 0, .int ((-1)), .int 5, .int 5, .ref m_low, .ref m_high, .ref m_crack, .int 0, .ref m_weight, .ref m_fire, .ref m_crowd, .ref m_state, .ref m_where, .int 0, .int 0, .int 0, .ref m_words, .int 0, .int 0, .int 0, .int 0, .int 0, .int 0, .ref m_told, .ref m_breaks, .ref m_row, .ref m_tried, .ref m_steps, .ref m_paths])), (m_told, .inl (y_told, 7, .inl ga)), (m_rules, .inl (y_rules, 8, .inl gb)), (m_rule, .inl (y_rule, 8, .inl gc)), (m_stair, .inl (y_stair, 24, .inl gd))] → va_S A s.heap H locs → ∀ ls : Array Slot, lv_has ls 4 [(0, .ref h0)] → W p l e ({ frames := 5, cells := 0, slots := 0, locals := 114 }) s m args below meth c H locs 0 0 Q (F0 m 61 ls [])) :
    ∀ n : Nat, ∀ (ga : Nat → Int32) (i : Nat), (i ≤ 7) → (7 - i) < n → ∀ (H : Heap) (locs : List Loc), va_P D vwCl [(h0, .inr (9, [.ref m_tape, .int 0, .int 0, .ref m_rule, .ref m_rules, .int 0, .ref m_stair, .int 0, .int 0, .int ((-1)), .int 5, .int 5, .ref m_low, .ref m_high, .ref m_crack, .int 0, .ref m_weight, .ref m_fire, .ref m_crowd, .ref m_state, .ref m_where, .int 0, .int 0, .int 0, .ref m_words, .int 0, .int 0, .int 0, .int 0, .int 0, .int 0, .ref m_told, .ref m_breaks, .ref m_row, .ref m_tried, .ref m_steps, .ref m_paths])), (m_told, .inl (y_told, 7, .inl ga)), (m_rules, .inl (y_rules, 8, .inl gb)), (m_rule, .inl (y_rule, 8, .inl gc)), (m_stair, .inl (y_stair, 24, .inl gd))] H → va_D A [(h0, .inr (9, [.ref m_tape, .int 0, .int 0, .ref m_rule, .ref m_rules, .int 0, .ref m_stair, .int 0, .int 0, .int ((-1)), .int 5, .int 5, .ref m_low, .ref m_high, .ref m_crack, .int 0, .ref m_weight, .ref m_fire, .ref m_crowd, .ref m_state, .ref m_where, .int 0, .int 0, .int 0, .ref m_words, .int 0, .int 0, .int 0, .int 0, .int 0, .int 0, .ref m_told, .ref m_breaks, .ref m_row, .ref m_tried, .ref m_steps, .ref m_paths])), (m_told, .inl (y_told, 7, .inl ga)), (m_rules, .inl (y_rules, 8, .inl gb)), (m_rule, .inl (y_rule, 8, .inl gc)), (m_stair, .inl (y_stair, 24, .inl gd))] → va_S A s.heap H locs → ∀ ls : Array Slot, lv_has ls 4 [(0, .ref h0), (2, .int (nI i))] → W p l e ({ frames := 5, cells := 0, slots := 0, locals := 114 }) s m args below meth c H locs 0 0 Q (F0 m 42 ls []) := by
  intro n
  induction n with
  | zero => intro ga i hi hn; exact absurd hn (Nat.not_lt_zero _)
  | succ n ih =>
    intro ga i hi hn H locs hP hD hS ls hl
    obtain ⟨hx, hb, hml, hown, hts⟩ := id F
    refine lv_iload_n hx hb dX10_customs_42 rfl (lv_at hl 1 rfl) ?_
    refine lv_bipush (v := 7) hx hb dX10_customs_43 (by decide) ?_
    refine lv_icmp_ge (tgt := 61) hx hb dX10_customs_45 (by decide) (fun c_1 => ?_) (fun c_1 => ?_)
    · skip
      have c_1n : 7 ≤ i := (nI_leI (by omega) (by omega)).mp c_1
      have c_1 := Int32.not_lt.mpr c_1
      exact kx_61 ga  H locs (hP.sub [0, 1, 2, 3, 4] rfl) (hD.sub [0, 1, 2, 3, 4] (by decide) rfl) hS ls (lv_sub hl [0] rfl)
    · skip
      have c_1n : i < 7 := nb_le (by omega) (by omega) c_1
      have c_1 := Int32.not_le.mp c_1
      refine lv_aload_n hx hb dX10_customs_48 rfl (lv_at hl 0 rfl) ?_
      refine va_get (D := D) (ci := 9) (v := .ref m_told) (C := RX10) (T := TX10) (N := 37) hx hb hts inG_X10 hown hK hP 0 rfl rfl 31 (by decide) (hts _ kw_4_226) (fun _ h9 => h9) rfl dX10_customs_49 ?_
      refine lv_iload_n hx hb dX10_customs_52 rfl (lv_at hl 1 rfl) ?_
      refine lv_iconst (v := 0) hx hb dX10_customs_53 (by decide) ?_
      refine m_zast hx hb hK hP hD hS 1 0 rfl rfl i rfl (by omega) (by decide) dX10_customs_54 (fun g_2 H locs eg_2 hP hD hS => ?_)
      have hP : va_P D vwCl [(h0, .inr (9, [.ref m_tape, .int 0, .int 0, .ref m_rule, .ref m_rules, .int 0, .ref m_stair, .int 0, .int 0, .int ((-1)), .int 5, .int 5, .ref m_low, .ref m_high, .ref m_crack, .int 0, .ref m_weight, .ref m_fire, .ref m_crowd, .ref m_state, .ref m_where, .int 0, .int 0, .int 0, .ref m_words, .int 0, .int 0, .int 0, .int 0, .int 0, .int 0, .ref m_told, .ref m_breaks, .ref m_row, .ref m_tried, .ref m_steps, .ref m_paths])), (m_told, .inl (y_told, 7, .inl g_2)), (m_rules, .inl (y_rules, 8, .inl gb)), (m_rule, .inl (y_rule, 8, .inl gc)), (m_stair, .inl (y_stair, 24, .inl gd))] H := hP
      have hD : va_D A [(h0, .inr (9, [.ref m_tape, .int 0, .int 0, .ref m_rule, .ref m_rules, .int 0, .ref m_stair, .int 0, .int 0, .int ((-1)), .int 5, .int 5, .ref m_low, .ref m_high, .ref m_crack, .int 0, .ref m_weight, .ref m_fire, .ref m_crowd, .ref m_state, .ref m_where, .int 0, .int 0, .int 0, .ref m_words, .int 0, .int 0, .int 0, .int 0, .int 0, .int 0, .ref m_told, .ref m_breaks, .ref m_row, .ref m_tried, .ref m_steps, .ref m_paths])), (m_told, .inl (y_told, 7, .inl g_2)), (m_rules, .inl (y_rules, 8, .inl gb)), (m_rule, .inl (y_rule, 8, .inl gc)), (m_stair, .inl (y_stair, 24, .inl gd))] := hD
      refine lv_iinc (v := nI (i + 1)) (lv' := [(2, .int (nI (i + 1))), (0, .ref h0)]) hx hb dX10_customs_55 hl (k := 1) rfl (nI_add i 1) (by decide) rfl (fun ls hl => ?_)
      refine lv_goto (tgt := 42) hx hb dX10_customs_58 (by decide) ?_
      exact ih g_2 (i + 1) (by omega) (by omega) H locs (hP.sub [0, 1, 2, 3, 4] rfl) (hD.sub [0, 1, 2, 3, 4] (by decide) rfl) hS ls (lv_sub hl [1, 0] rfl)
theorem dX10_customs_185 : decode cX10_customs 185 = .ok (.iload_n 3, 1) := by decide +kernel
theorem dX10_customs_186 : decode cX10_customs 186 = .ok (.bipush 8, 2) := by decide +kernel
theorem dX10_customs_188 : decode cX10_customs 188 = .ok (.if_icmp .ge 21, 3) := by decide +kernel
theorem dX10_customs_191 : decode cX10_customs 191 = .ok (.aload_n 0, 1) := by decide +kernel
theorem dX10_customs_192 : decode cX10_customs 192 = .ok (.getfield 13, 3) := by decide +kernel
theorem dX10_customs_195 : decode cX10_customs 195 = .ok (.iload_n 3, 1) := by decide +kernel
theorem dX10_customs_196 : decode cX10_customs 196 = .ok (.aload_n 0, 1) := by decide +kernel
theorem dX10_customs_197 : decode cX10_customs 197 = .ok (.getfield 16, 3) := by decide +kernel
theorem dX10_customs_200 : decode cX10_customs 200 = .ok (.iload_n 3, 1) := by decide +kernel
theorem dX10_customs_201 : decode cX10_customs 201 = .ok (.iaload, 1) := by decide +kernel
theorem dX10_customs_202 : decode cX10_customs 202 = .ok (.iastore, 1) := by decide +kernel
theorem dX10_customs_203 : decode cX10_customs 203 = .ok (.iinc 3 1, 3) := by decide +kernel
theorem dX10_customs_206 : decode cX10_customs 206 = .ok (.goto (-21), 3) := by decide +kernel
set_option maxHeartbeats 4000000 in
set_option maxRecDepth 100000 in
theorem lp_m_cu2 {p : Program} {l : Launch} {e : Env} {s : State} {m : MethodId} {args : Array Value} {below : List Frame} {meth : Method} {c : Code} {Q : State → Prop} {A : Nat → Prop} {D : va_G} (F : mFix p s m args c cX10_customs 4 RX10) (hA : ∀ q, s.heap.size ≤ q → A q) (h0 : Nat) (m_tape : Nat) (m_rule : Nat) (m_rules : Nat) (m_stair : Nat) (m_low : Nat) (m_high : Nat) (m_crack : Nat) (m_weight : Nat) (m_fire : Nat) (m_crowd : Nat) (m_state : Nat) (m_where : Nat) (m_words : Nat) (m_told : Nat) (m_breaks : Nat) (m_row : Nat) (m_tried : Nat) (m_steps : Nat) (m_paths : Nat) (y_told : ClassId) (y_rules : ClassId) (y_rule : ClassId) (y_stair : ClassId) (ga : Nat → Int32) (gb : Nat → Int32) (gd : Nat → Int32) (hK : va_K D vwCl [(y_told, .boolean), (y_rules, .int), (y_rule, .int), (y_stair, .int)] s)
    (kx_209 : ∀ (gc : Nat → Int32), ∀ (H : Heap) (locs : List Loc), va_P D vwCl [(h0, .inr (9, [.ref m_tape, .int 0, .int 0, .ref m_rule, .ref m_rules, .int 0, .ref m_stair, .int 0, .int 0, .int ((-1)), .int 5, .int 5, .ref m_low, .ref m_high, .ref m_crack, .int 0, .ref m_weight, .ref m_fire, .ref m_crowd, .ref m_state, .ref m_where, .int 0, .int 0, .int 0, .ref m_words, .int 0, .int 0, .int 0, .int 0, .int 0, .int 0, .ref m_told, .ref m_breaks, .ref m_row, .ref m_tried, .ref m_steps, .ref m_paths])), (m_told, .inl (y_told, 7, .inl ga)), (m_rules, .inl (y_rules, 8, .inl gb)), (m_rule, .inl (y_rule, 8, .inl gc)), (m_stair, .inl (y_stair, 24, .inl gd))] H → va_D A [(h0, .inr (9, [.ref m_tape, .int 0, .int 0, .ref m_rule, .ref m_rules, .int 0, .ref m_stair, .int 0, .int 0, .int ((-1)), .int 5, .int 5, .ref m_low, .ref m_high, .ref m_crack, .int 0, .ref m_weight, .ref m_fire, .ref m_crowd, .ref m_state, .ref m_where, .int 0, .int 0, .int 0, .ref m_words, .int 0, .int 0, .int 0, .int 0, .int 0, .int 0, .ref m_told, .ref m_breaks, .ref m_row, .ref m_tried, .ref m_steps, .ref m_paths])), (m_told, .inl (y_told, 7, .inl ga)), (m_rules, .inl (y_rules, 8, .inl gb)), (m_rule, .inl (y_rule, 8, .inl gc)), (m_stair, .inl (y_stair, 24, .inl gd))] → va_S A s.heap H locs → ∀ ls : Array Slot, lv_has ls 4 [(0, .ref h0), (2, .int 0)] → W p l e ({ frames := 5, cells := 0, slots := 0, locals := 114 }) s m args below meth c H locs 0 0 Q (F0 m 209 ls [])) :
    ∀ n : Nat, ∀ (gc : Nat → Int32) (i : Nat), (i ≤ 8) → (8 - i) < n → ∀ (H : Heap) (locs : List Loc), va_P D vwCl [(h0, .inr (9, [.ref m_tape, .int 0, .int 0, .ref m_rule, .ref m_rules, .int 0, .ref m_stair, .int 0, .int 0, .int ((-1)), .int 5, .int 5, .ref m_low, .ref m_high, .ref m_crack, .int 0, .ref m_weight, .ref m_fire, .ref m_crowd, .ref m_state, .ref m_where, .int 0, .int 0, .int 0, .ref m_words, .int 0, .int 0, .int 0, .int 0, .int 0, .int 0, .ref m_told, .ref m_breaks, .ref m_row, .ref m_tried, .ref m_steps, .ref m_paths])), (m_told, .inl (y_told, 7, .inl ga)), (m_rules, .inl (y_rules, 8, .inl gb)), (m_rule, .inl (y_rule, 8, .inl gc)), (m_stair, .inl (y_stair, 24, .inl gd))] H → va_D A [(h0, .inr (9, [.ref m_tape, .int 0, .int 0, .ref m_rule, .ref m_rules, .int 0, .ref m_stair, .int 0, .int 0, .int ((-1)), .int 5, .int 5, .ref m_low, .ref m_high, .ref m_crack, .int 0, .ref m_weight, .ref m_fire, .ref m_crowd, .ref m_state, .ref m_where, .int 0, .int 0, .int 0, .ref m_words, .int 0, .int 0, .int 0, .int 0, .int 0, .int 0, .ref m_told, .ref m_breaks, .ref m_row, .ref m_tried, .ref m_steps, .ref m_paths])), (m_told, .inl (y_told, 7, .inl ga)), (m_rules, .inl (y_rules, 8, .inl gb)), (m_rule, .inl (y_rule, 8, .inl gc)), (m_stair, .inl (y_stair, 24, .inl gd))] → va_S A s.heap H locs → ∀ ls : Array Slot, lv_has ls 4 [(0, .ref h0), (2, .int 0), (3, .int (nI i))] → W p l e ({ frames := 5, cells := 0, slots := 0, locals := 114 }) s m args below meth c H locs 0 0 Q (F0 m 185 ls []) := by
  intro n
  induction n with
  | zero => intro gc i hi hn; exact absurd hn (Nat.not_lt_zero _)
  | succ n ih =>
    intro gc i hi hn H locs hP hD hS ls hl
    obtain ⟨hx, hb, hml, hown, hts⟩ := id F
    refine lv_iload_n hx hb dX10_customs_185 rfl (lv_at hl 2 rfl) ?_
    refine lv_bipush (v := 8) hx hb dX10_customs_186 (by decide) ?_
    refine lv_icmp_ge (tgt := 209) hx hb dX10_customs_188 (by decide) (fun c_1 => ?_) (fun c_1 => ?_)
    · skip
      have c_1n : 8 ≤ i := (nI_leI (by omega) (by omega)).mp c_1
      have c_1 := Int32.not_lt.mpr c_1
      exact kx_209 gc  H locs (hP.sub [0, 1, 2, 3, 4] rfl) (hD.sub [0, 1, 2, 3, 4] (by decide) rfl) hS ls (lv_sub hl [0, 1] rfl)
    · skip
      have c_1n : i < 8 := nb_le (by omega) (by omega) c_1
      have c_1 := Int32.not_le.mp c_1
      refine lv_aload_n hx hb dX10_customs_191 rfl (lv_at hl 0 rfl) ?_
      refine va_get (D := D) (ci := 9) (v := .ref m_rule) (C := RX10) (T := TX10) (N := 37) hx hb hts inG_X10 hown hK hP 0 rfl rfl 3 (by decide) (hts _ kw_4_198) (fun _ h9 => h9) rfl dX10_customs_192 ?_
      refine lv_iload_n hx hb dX10_customs_195 rfl (lv_at hl 2 rfl) ?_
      refine lv_aload_n hx hb dX10_customs_196 rfl (lv_at hl 0 rfl) ?_
      refine va_get (D := D) (ci := 9) (v := .ref m_rules) (C := RX10) (T := TX10) (N := 37) hx hb hts inG_X10 hown hK hP 0 rfl rfl 4 (by decide) (hts _ kw_4_199) (fun _ h9 => h9) rfl dX10_customs_197 ?_
      refine lv_iload_n hx hb dX10_customs_200 rfl (lv_at hl 2 rfl) ?_
      refine m_iald hx hb hK hP 2 1 rfl rfl i rfl (by omega) (by decide) dX10_customs_201 ?_
      refine lv_topi (fun v_2 ev_2 => ?_)
      refine m_iast hx hb hK hP hD hS 3 2 rfl rfl i rfl (by omega) (by decide) dX10_customs_202 (fun g_3 H locs eg_3 hP hD hS => ?_)
      have hP : va_P D vwCl [(h0, .inr (9, [.ref m_tape, .int 0, .int 0, .ref m_rule, .ref m_rules, .int 0, .ref m_stair, .int 0, .int 0, .int ((-1)), .int 5, .int 5, .ref m_low, .ref m_high, .ref m_crack, .int 0, .ref m_weight, .ref m_fire, .ref m_crowd, .ref m_state, .ref m_where, .int 0, .int 0, .int 0, .ref m_words, .int 0, .int 0, .int 0, .int 0, .int 0, .int 0, .ref m_told, .ref m_breaks, .ref m_row, .ref m_tried, .ref m_steps, .ref m_paths])), (m_told, .inl (y_told, 7, .inl ga)), (m_rules, .inl (y_rules, 8, .inl gb)), (m_rule, .inl (y_rule, 8, .inl g_3)), (m_stair, .inl (y_stair, 24, .inl gd))] H := hP
      have hD : va_D A [(h0, .inr (9, [.ref m_tape, .int 0, .int 0, .ref m_rule, .ref m_rules, .int 0, .ref m_stair, .int 0, .int 0, .int ((-1)), .int 5, .int 5, .ref m_low, .ref m_high, .ref m_crack, .int 0, .ref m_weight, .ref m_fire, .ref m_crowd, .ref m_state, .ref m_where, .int 0, .int 0, .int 0, .ref m_words, .int 0, .int 0, .int 0, .int 0, .int 0, .int 0, .ref m_told, .ref m_breaks, .ref m_row, .ref m_tried, .ref m_steps, .ref m_paths])), (m_told, .inl (y_told, 7, .inl ga)), (m_rules, .inl (y_rules, 8, .inl gb)), (m_rule, .inl (y_rule, 8, .inl g_3)), (m_stair, .inl (y_stair, 24, .inl gd))] := hD
      refine lv_iinc (v := nI (i + 1)) (lv' := [(3, .int (nI (i + 1))), (0, .ref h0), (2, .int 0)]) hx hb dX10_customs_203 hl (k := 2) rfl (nI_add i 1) (by decide) rfl (fun ls hl => ?_)
      refine lv_goto (tgt := 185) hx hb dX10_customs_206 (by decide) ?_
      exact ih g_3 (i + 1) (by omega) (by omega) H locs (hP.sub [0, 1, 2, 3, 4] rfl) (hD.sub [0, 1, 2, 3, 4] (by decide) rfl) hS ls (lv_sub hl [1, 2, 0] rfl)
theorem dX10_customs_219 : decode cX10_customs 219 = .ok (.iload_n 3, 1) := by decide +kernel
theorem dX10_customs_220 : decode cX10_customs 220 = .ok (.bipush 8, 2) := by decide +kernel
theorem dX10_customs_222 : decode cX10_customs 222 = .ok (.if_icmp .ge 24, 3) := by decide +kernel
theorem dX10_customs_225 : decode cX10_customs 225 = .ok (.aload_n 0, 1) := by decide +kernel
theorem dX10_customs_226 : decode cX10_customs 226 = .ok (.getfield 19, 3) := by decide +kernel
theorem dX10_customs_229 : decode cX10_customs 229 = .ok (.iload_n 3, 1) := by decide +kernel
theorem dX10_customs_230 : decode cX10_customs 230 = .ok (.aload_n 0, 1) := by decide +kernel
theorem dX10_customs_231 : decode cX10_customs 231 = .ok (.getfield 19, 3) := by decide +kernel
theorem dX10_customs_234 : decode cX10_customs 234 = .ok (.bipush 12, 2) := by decide +kernel
theorem dX10_customs_236 : decode cX10_customs 236 = .ok (.iload_n 3, 1) := by decide +kernel
theorem dX10_customs_237 : decode cX10_customs 237 = .ok (.iadd, 1) := by decide +kernel
theorem dX10_customs_238 : decode cX10_customs 238 = .ok (.iaload, 1) := by decide +kernel
theorem dX10_customs_239 : decode cX10_customs 239 = .ok (.iastore, 1) := by decide +kernel
theorem dX10_customs_240 : decode cX10_customs 240 = .ok (.iinc 3 1, 3) := by decide +kernel
theorem dX10_customs_243 : decode cX10_customs 243 = .ok (.goto (-24), 3) := by decide +kernel
set_option maxHeartbeats 4000000 in
set_option maxRecDepth 100000 in
theorem lp_m_cu3 {p : Program} {l : Launch} {e : Env} {s : State} {m : MethodId} {args : Array Value} {below : List Frame} {meth : Method} {c : Code} {Q : State → Prop} {A : Nat → Prop} {D : va_G} (F : mFix p s m args c cX10_customs 4 RX10) (hA : ∀ q, s.heap.size ≤ q → A q) (h0 : Nat) (m_tape : Nat) (m_rule : Nat) (m_rules : Nat) (m_stair : Nat) (m_low : Nat) (m_high : Nat) (m_crack : Nat) (m_weight : Nat) (m_fire : Nat) (m_crowd : Nat) (m_state : Nat) (m_where : Nat) (m_words : Nat) (m_told : Nat) (m_breaks : Nat) (m_row : Nat) (m_tried : Nat) (m_steps : Nat) (m_paths : Nat) (y_told : ClassId) (y_rules : ClassId) (y_rule : ClassId) (y_stair : ClassId) (ga : Nat → Int32) (gb : Nat → Int32) (gc : Nat → Int32) (hK : va_K D vwCl [(y_told, .boolean), (y_rules, .int), (y_rule, .int), (y_stair, .int)] s)
    (kx_246 : ∀ (gd : Nat → Int32), ∀ (H : Heap) (locs : List Loc), va_P D vwCl [(h0, .inr (9, [.ref m_tape, .int 0, .int 0, .ref m_rule, .ref m_rules, .int 0, .ref m_stair, .int 0, .int 0, .int ((-1)), .int 5, .int 5, .ref m_low, .ref m_high, .ref m_crack, .int 0, .ref m_weight, .ref m_fire, .ref m_crowd, .ref m_state, .ref m_where, .int 0, .int 0, .int 0, .ref m_words, .int 0, .int 0, .int 0, .int 0, .int 0, .int 0, .ref m_told, .ref m_breaks, .ref m_row, .ref m_tried, .ref m_steps, .ref m_paths])), (m_told, .inl (y_told, 7, .inl ga)), (m_rules, .inl (y_rules, 8, .inl gb)), (m_rule, .inl (y_rule, 8, .inl gc)), (m_stair, .inl (y_stair, 24, .inl gd))] H → va_D A [(h0, .inr (9, [.ref m_tape, .int 0, .int 0, .ref m_rule, .ref m_rules, .int 0, .ref m_stair, .int 0, .int 0, .int ((-1)), .int 5, .int 5, .ref m_low, .ref m_high, .ref m_crack, .int 0, .ref m_weight, .ref m_fire, .ref m_crowd, .ref m_state, .ref m_where, .int 0, .int 0, .int 0, .ref m_words, .int 0, .int 0, .int 0, .int 0, .int 0, .int 0, .ref m_told, .ref m_breaks, .ref m_row, .ref m_tried, .ref m_steps, .ref m_paths])), (m_told, .inl (y_told, 7, .inl ga)), (m_rules, .inl (y_rules, 8, .inl gb)), (m_rule, .inl (y_rule, 8, .inl gc)), (m_stair, .inl (y_stair, 24, .inl gd))] → va_S A s.heap H locs → ∀ ls : Array Slot, lv_has ls 4 [(2, .int 0)] → W p l e ({ frames := 5, cells := 0, slots := 0, locals := 114 }) s m args below meth c H locs 0 0 Q (F0 m 246 ls [])) :
    ∀ n : Nat, ∀ (gd : Nat → Int32) (i : Nat), (i ≤ 8) → (8 - i) < n → ∀ (H : Heap) (locs : List Loc), va_P D vwCl [(h0, .inr (9, [.ref m_tape, .int 0, .int 0, .ref m_rule, .ref m_rules, .int 0, .ref m_stair, .int 0, .int 0, .int ((-1)), .int 5, .int 5, .ref m_low, .ref m_high, .ref m_crack, .int 0, .ref m_weight, .ref m_fire, .ref m_crowd, .ref m_state, .ref m_where, .int 0, .int 0, .int 0, .ref m_words, .int 0, .int 0, .int 0, .int 0, .int 0, .int 0, .ref m_told, .ref m_breaks, .ref m_row, .ref m_tried, .ref m_steps, .ref m_paths])), (m_told, .inl (y_told, 7, .inl ga)), (m_rules, .inl (y_rules, 8, .inl gb)), (m_rule, .inl (y_rule, 8, .inl gc)), (m_stair, .inl (y_stair, 24, .inl gd))] H → va_D A [(h0, .inr (9, [.ref m_tape, .int 0, .int 0, .ref m_rule, .ref m_rules, .int 0, .ref m_stair, .int 0, .int 0, .int ((-1)), .int 5, .int 5, .ref m_low, .ref m_high, .ref m_crack, .int 0, .ref m_weight, .ref m_fire, .ref m_crowd, .ref m_state, .ref m_where, .int 0, .int 0, .int 0, .ref m_words, .int 0, .int 0, .int 0, .int 0, .int 0, .int 0, .ref m_told, .ref m_breaks, .ref m_row, .ref m_tried, .ref m_steps, .ref m_paths])), (m_told, .inl (y_told, 7, .inl ga)), (m_rules, .inl (y_rules, 8, .inl gb)), (m_rule, .inl (y_rule, 8, .inl gc)), (m_stair, .inl (y_stair, 24, .inl gd))] → va_S A s.heap H locs → ∀ ls : Array Slot, lv_has ls 4 [(0, .ref h0), (2, .int 0), (3, .int (nI i))] → W p l e ({ frames := 5, cells := 0, slots := 0, locals := 114 }) s m args below meth c H locs 0 0 Q (F0 m 219 ls []) := by
  intro n
  induction n with
  | zero => intro gd i hi hn; exact absurd hn (Nat.not_lt_zero _)
  | succ n ih =>
    intro gd i hi hn H locs hP hD hS ls hl
    obtain ⟨hx, hb, hml, hown, hts⟩ := id F
    refine lv_iload_n hx hb dX10_customs_219 rfl (lv_at hl 2 rfl) ?_
    refine lv_bipush (v := 8) hx hb dX10_customs_220 (by decide) ?_
    refine lv_icmp_ge (tgt := 246) hx hb dX10_customs_222 (by decide) (fun c_1 => ?_) (fun c_1 => ?_)
    · skip
      have c_1n : 8 ≤ i := (nI_leI (by omega) (by omega)).mp c_1
      have c_1 := Int32.not_lt.mpr c_1
      exact kx_246 gd  H locs (hP.sub [0, 1, 2, 3, 4] rfl) (hD.sub [0, 1, 2, 3, 4] (by decide) rfl) hS ls (lv_sub hl [1] rfl)
    · skip
      have c_1n : i < 8 := nb_le (by omega) (by omega) c_1
      have c_1 := Int32.not_le.mp c_1
      refine lv_aload_n hx hb dX10_customs_225 rfl (lv_at hl 0 rfl) ?_
      refine va_get (D := D) (ci := 9) (v := .ref m_stair) (C := RX10) (T := TX10) (N := 37) hx hb hts inG_X10 hown hK hP 0 rfl rfl 6 (by decide) (hts _ kw_4_201) (fun _ h9 => h9) rfl dX10_customs_226 ?_
      refine lv_iload_n hx hb dX10_customs_229 rfl (lv_at hl 2 rfl) ?_
      refine lv_aload_n hx hb dX10_customs_230 rfl (lv_at hl 0 rfl) ?_
      refine va_get (D := D) (ci := 9) (v := .ref m_stair) (C := RX10) (T := TX10) (N := 37) hx hb hts inG_X10 hown hK hP 0 rfl rfl 6 (by decide) (hts _ kw_4_201) (fun _ h9 => h9) rfl dX10_customs_231 ?_
      refine lv_bipush (v := 12) hx hb dX10_customs_234 (by decide) ?_
      refine lv_iload_n hx hb dX10_customs_236 rfl (lv_at hl 2 rfl) ?_
      refine lv_iadd hx hb dX10_customs_237 ?_
      refine lv_topi (fun z_2 ez_2 => ?_)
      obtain rfl : z_2 = nI (12 + i) := ez_2.trans (nI_add 12 i)
      refine m_iald hx hb hK hP 4 3 rfl rfl (12 + i) rfl (by omega) (by decide) dX10_customs_238 ?_
      refine lv_topi (fun v_3 ev_3 => ?_)
      refine m_iast hx hb hK hP hD hS 4 3 rfl rfl i rfl (by omega) (by decide) dX10_customs_239 (fun g_4 H locs eg_4 hP hD hS => ?_)
      have hP : va_P D vwCl [(h0, .inr (9, [.ref m_tape, .int 0, .int 0, .ref m_rule, .ref m_rules, .int 0, .ref m_stair, .int 0, .int 0, .int ((-1)), .int 5, .int 5, .ref m_low, .ref m_high, .ref m_crack, .int 0, .ref m_weight, .ref m_fire, .ref m_crowd, .ref m_state, .ref m_where, .int 0, .int 0, .int 0, .ref m_words, .int 0, .int 0, .int 0, .int 0, .int 0, .int 0, .ref m_told, .ref m_breaks, .ref m_row, .ref m_tried, .ref m_steps, .ref m_paths])), (m_told, .inl (y_told, 7, .inl ga)), (m_rules, .inl (y_rules, 8, .inl gb)), (m_rule, .inl (y_rule, 8, .inl gc)), (m_stair, .inl (y_stair, 24, .inl g_4))] H := hP
      have hD : va_D A [(h0, .inr (9, [.ref m_tape, .int 0, .int 0, .ref m_rule, .ref m_rules, .int 0, .ref m_stair, .int 0, .int 0, .int ((-1)), .int 5, .int 5, .ref m_low, .ref m_high, .ref m_crack, .int 0, .ref m_weight, .ref m_fire, .ref m_crowd, .ref m_state, .ref m_where, .int 0, .int 0, .int 0, .ref m_words, .int 0, .int 0, .int 0, .int 0, .int 0, .int 0, .ref m_told, .ref m_breaks, .ref m_row, .ref m_tried, .ref m_steps, .ref m_paths])), (m_told, .inl (y_told, 7, .inl ga)), (m_rules, .inl (y_rules, 8, .inl gb)), (m_rule, .inl (y_rule, 8, .inl gc)), (m_stair, .inl (y_stair, 24, .inl g_4))] := hD
      refine lv_iinc (v := nI (i + 1)) (lv' := [(3, .int (nI (i + 1))), (0, .ref h0), (2, .int 0)]) hx hb dX10_customs_240 hl (k := 2) rfl (nI_add i 1) (by decide) rfl (fun ls hl => ?_)
      refine lv_goto (tgt := 219) hx hb dX10_customs_243 (by decide) ?_
      exact ih g_4 (i + 1) (by omega) (by omega) H locs (hP.sub [0, 1, 2, 3, 4] rfl) (hD.sub [0, 1, 2, 3, 4] (by decide) rfl) hS ls (lv_sub hl [1, 2, 0] rfl)
theorem dX10_customs_0 : decode cX10_customs 0 = .ok (.aload_n 0, 1) := by decide +kernel
theorem dX10_customs_1 : decode cX10_customs 1 = .ok (.iconst 0, 1) := by decide +kernel
theorem dX10_customs_2 : decode cX10_customs 2 = .ok (.putfield 78, 3) := by decide +kernel
theorem dX10_customs_5 : decode cX10_customs 5 = .ok (.iload_n 1, 1) := by decide +kernel
theorem dX10_customs_6 : decode cX10_customs 6 = .ok (.ifCond .lt 11, 3) := by decide +kernel
theorem dX10_customs_17 : decode cX10_customs 17 = .ok (.bipush (-2), 2) := by decide +kernel
theorem dX10_customs_19 : decode cX10_customs 19 = .ok (.ireturn, 1) := by decide +kernel
theorem dX10_customs_9 : decode cX10_customs 9 = .ok (.iload_n 1, 1) := by decide +kernel
theorem dX10_customs_10 : decode cX10_customs 10 = .ok (.aload_n 0, 1) := by decide +kernel
theorem dX10_customs_11 : decode cX10_customs 11 = .ok (.getfield 81, 3) := by decide +kernel
theorem dX10_customs_14 : decode cX10_customs 14 = .ok (.if_icmp .le 6, 3) := by decide +kernel
theorem dX10_customs_20 : decode cX10_customs 20 = .ok (.aload_n 0, 1) := by decide +kernel
theorem dX10_customs_21 : decode cX10_customs 21 = .ok (.iload_n 1, 1) := by decide +kernel
theorem dX10_customs_22 : decode cX10_customs 22 = .ok (.putfield 87, 3) := by decide +kernel
theorem dX10_customs_25 : decode cX10_customs 25 = .ok (.aload_n 0, 1) := by decide +kernel
theorem dX10_customs_26 : decode cX10_customs 26 = .ok (.iconst 0, 1) := by decide +kernel
theorem dX10_customs_27 : decode cX10_customs 27 = .ok (.putfield 81, 3) := by decide +kernel
theorem dX10_customs_30 : decode cX10_customs 30 = .ok (.aload_n 0, 1) := by decide +kernel
theorem dX10_customs_31 : decode cX10_customs 31 = .ok (.iconst 0, 1) := by decide +kernel
theorem kw_4_203 : Cond.fieldLink RX10 84 "IceFairModel" "fault" "I" ∈ gw := gw_t4 (List.mem_of_getElem? (i := 203) (by decide +kernel)) (by decide +kernel)
theorem dX10_customs_32 : decode cX10_customs 32 = .ok (.putfield 84, 3) := by decide +kernel
theorem dX10_customs_35 : decode cX10_customs 35 = .ok (.aload_n 0, 1) := by decide +kernel
theorem dX10_customs_36 : decode cX10_customs 36 = .ok (.iconst (-1), 1) := by decide +kernel
theorem dX10_customs_37 : decode cX10_customs 37 = .ok (.putfield 22, 3) := by decide +kernel
theorem dX10_customs_40 : decode cX10_customs 40 = .ok (.iconst 0, 1) := by decide +kernel
theorem dX10_customs_41 : decode cX10_customs 41 = .ok (.istore_n 2, 1) := by decide +kernel
theorem dX10_customs_61 : decode cX10_customs 61 = .ok (.aload_n 0, 1) := by decide +kernel
theorem dX10_customs_62 : decode cX10_customs 62 = .ok (.getfield 16, 3) := by decide +kernel
theorem dX10_customs_65 : decode cX10_customs 65 = .ok (.iconst 0, 1) := by decide +kernel
theorem dX10_customs_66 : decode cX10_customs 66 = .ok (.bipush 100, 2) := by decide +kernel
theorem dX10_customs_68 : decode cX10_customs 68 = .ok (.iastore, 1) := by decide +kernel
theorem dX10_customs_69 : decode cX10_customs 69 = .ok (.aload_n 0, 1) := by decide +kernel
theorem dX10_customs_70 : decode cX10_customs 70 = .ok (.getfield 16, 3) := by decide +kernel
theorem dX10_customs_73 : decode cX10_customs 73 = .ok (.iconst 1, 1) := by decide +kernel
theorem dX10_customs_74 : decode cX10_customs 74 = .ok (.iconst 1, 1) := by decide +kernel
theorem dX10_customs_75 : decode cX10_customs 75 = .ok (.iastore, 1) := by decide +kernel
theorem dX10_customs_76 : decode cX10_customs 76 = .ok (.aload_n 0, 1) := by decide +kernel
theorem dX10_customs_77 : decode cX10_customs 77 = .ok (.getfield 16, 3) := by decide +kernel
theorem dX10_customs_80 : decode cX10_customs 80 = .ok (.iconst 2, 1) := by decide +kernel
theorem dX10_customs_81 : decode cX10_customs 81 = .ok (.iconst 0, 1) := by decide +kernel
theorem dX10_customs_82 : decode cX10_customs 82 = .ok (.iastore, 1) := by decide +kernel
theorem dX10_customs_83 : decode cX10_customs 83 = .ok (.aload_n 0, 1) := by decide +kernel
theorem dX10_customs_84 : decode cX10_customs 84 = .ok (.getfield 16, 3) := by decide +kernel
theorem dX10_customs_87 : decode cX10_customs 87 = .ok (.iconst 3, 1) := by decide +kernel
theorem dX10_customs_88 : decode cX10_customs 88 = .ok (.iconst 0, 1) := by decide +kernel
theorem dX10_customs_89 : decode cX10_customs 89 = .ok (.iastore, 1) := by decide +kernel
theorem dX10_customs_90 : decode cX10_customs 90 = .ok (.aload_n 0, 1) := by decide +kernel
theorem dX10_customs_91 : decode cX10_customs 91 = .ok (.getfield 16, 3) := by decide +kernel
theorem dX10_customs_94 : decode cX10_customs 94 = .ok (.iconst 4, 1) := by decide +kernel
theorem dX10_customs_95 : decode cX10_customs 95 = .ok (.iconst 1, 1) := by decide +kernel
theorem dX10_customs_96 : decode cX10_customs 96 = .ok (.iastore, 1) := by decide +kernel
theorem dX10_customs_97 : decode cX10_customs 97 = .ok (.aload_n 0, 1) := by decide +kernel
theorem dX10_customs_98 : decode cX10_customs 98 = .ok (.getfield 16, 3) := by decide +kernel
theorem dX10_customs_101 : decode cX10_customs 101 = .ok (.iconst 5, 1) := by decide +kernel
theorem dX10_customs_102 : decode cX10_customs 102 = .ok (.bipush 99, 2) := by decide +kernel
theorem dX10_customs_104 : decode cX10_customs 104 = .ok (.iastore, 1) := by decide +kernel
theorem dX10_customs_105 : decode cX10_customs 105 = .ok (.aload_n 0, 1) := by decide +kernel
theorem dX10_customs_106 : decode cX10_customs 106 = .ok (.getfield 16, 3) := by decide +kernel
theorem dX10_customs_109 : decode cX10_customs 109 = .ok (.bipush 6, 2) := by decide +kernel
theorem dX10_customs_111 : decode cX10_customs 111 = .ok (.iconst 1, 1) := by decide +kernel
theorem dX10_customs_112 : decode cX10_customs 112 = .ok (.iastore, 1) := by decide +kernel
theorem dX10_customs_113 : decode cX10_customs 113 = .ok (.aload_n 0, 1) := by decide +kernel
theorem dX10_customs_114 : decode cX10_customs 114 = .ok (.getfield 16, 3) := by decide +kernel
theorem dX10_customs_117 : decode cX10_customs 117 = .ok (.bipush 7, 2) := by decide +kernel
theorem dX10_customs_119 : decode cX10_customs 119 = .ok (.iconst 0, 1) := by decide +kernel
theorem dX10_customs_120 : decode cX10_customs 120 = .ok (.iastore, 1) := by decide +kernel
theorem dX10_customs_121 : decode cX10_customs 121 = .ok (.aload_n 0, 1) := by decide +kernel
theorem dX10_customs_122 : decode cX10_customs 122 = .ok (.iconst 0, 1) := by decide +kernel
theorem kw_4_202 : Cond.fieldLink RX10 126 "IceFairModel" "readStairs" "I" ∈ gw := gw_t4 (List.mem_of_getElem? (i := 202) (by decide +kernel)) (by decide +kernel)
theorem dX10_customs_123 : decode cX10_customs 123 = .ok (.putfield 126, 3) := by decide +kernel
theorem dX10_customs_126 : decode cX10_customs 126 = .ok (.aload_n 0, 1) := by decide +kernel
theorem dX10_customs_127 : decode cX10_customs 127 = .ok (.iconst 0, 1) := by decide +kernel
theorem dX10_customs_128 : decode cX10_customs 128 = .ok (.putfield 90, 3) := by decide +kernel
theorem dX10_customs_131 : decode cX10_customs 131 = .ok (.iconst 0, 1) := by decide +kernel
theorem dX10_customs_132 : decode cX10_customs 132 = .ok (.istore_n 2, 1) := by decide +kernel
theorem dX10_customs_133 : decode cX10_customs 133 = .ok (.aload_n 0, 1) := by decide +kernel
theorem kw_5_79 : Cond.methodLink RX10 120 yX10_take ∈ gw := gw_t5 (List.mem_of_getElem? (i := 79) (by decide +kernel)) (by decide +kernel)
theorem kw_5_81 : Cond.instanceMethod yX10_take ∈ gw := gw_t5 (List.mem_of_getElem? (i := 81) (by decide +kernel)) (by decide +kernel)
theorem ks_3_1 : Cond.selects RX10 yX10_take yX10_take ∈ gw := gw_s (y := yX10_take) (n := 37) (List.mem_append_right _ (List.mem_append_right _ (List.mem_append_left _ (List.mem_of_getElem? (i := 1) (by decide +kernel)))))
theorem kw_1_11 : Cond.initialized RX10 ∈ gw := gw_t1 (List.mem_of_getElem? (i := 11) (by decide +kernel)) (by decide +kernel)
theorem kw_5_82 : Cond.code yX10_take cX10_take 1 none ∈ gw := gw_t5 (List.mem_of_getElem? (i := 82) (by decide +kernel)) (by decide +kernel)
theorem gk_X10_120 : GoodIn gw (wsV RX10 120 RX10 yX10_take (.code yX10_take cX10_take 1 none :: gw)) ∧ (yX10_take.cls = RX10 ∧ yX10_take.cls ≠ "java/lang/invoke/MethodHandle" ∧ yX10_take.cls ≠ "java/lang/invoke/VarHandle" ∧ (parseMethodDescriptor yX10_take.desc).map (fun d => d.parameters.length) = some 0) := ⟨gi_V kw_5_79 kw_5_81 ks_3_1 kw_1_11 kw_5_82, by decide +kernel⟩
theorem dX10_customs_134 : decode cX10_customs 134 = .ok (.invokevirtual 120, 3) := by decide +kernel
theorem dX10_customs_137 : decode cX10_customs 137 = .ok (.aload_n 0, 1) := by decide +kernel
theorem dX10_customs_138 : decode cX10_customs 138 = .ok (.getfield 96, 3) := by decide +kernel
theorem dX10_customs_141 : decode cX10_customs 141 = .ok (.ifCond .eq 42, 3) := by decide +kernel
theorem dX10_customs_183 : decode cX10_customs 183 = .ok (.iconst 0, 1) := by decide +kernel
theorem dX10_customs_184 : decode cX10_customs 184 = .ok (.istore_n 3, 1) := by decide +kernel
theorem dX10_customs_209 : decode cX10_customs 209 = .ok (.aload_n 0, 1) := by decide +kernel
theorem dX10_customs_210 : decode cX10_customs 210 = .ok (.aload_n 0, 1) := by decide +kernel
theorem dX10_customs_211 : decode cX10_customs 211 = .ok (.getfield 126, 3) := by decide +kernel
theorem kw_4_200 : Cond.fieldLink RX10 143 "IceFairModel" "stairs" "I" ∈ gw := gw_t4 (List.mem_of_getElem? (i := 200) (by decide +kernel)) (by decide +kernel)
theorem dX10_customs_214 : decode cX10_customs 214 = .ok (.putfield 143, 3) := by decide +kernel
theorem dX10_customs_217 : decode cX10_customs 217 = .ok (.iconst 0, 1) := by decide +kernel
theorem dX10_customs_218 : decode cX10_customs 218 = .ok (.istore_n 3, 1) := by decide +kernel
theorem dX10_customs_246 : decode cX10_customs 246 = .ok (.iload_n 2, 1) := by decide +kernel
theorem dX10_customs_247 : decode cX10_customs 247 = .ok (.ireturn, 1) := by decide +kernel
set_option maxHeartbeats 4000000 in
set_option maxRecDepth 100000 in
theorem m_customs (l : Launch) (D : va_G) (h0 : Nat) (m_tape : Nat) (m_rule : Nat) (m_rules : Nat) (m_stair : Nat) (m_low : Nat) (m_high : Nat) (m_crack : Nat) (m_weight : Nat) (m_fire : Nat) (m_crowd : Nat) (m_state : Nat) (m_where : Nat) (m_words : Nat) (m_told : Nat) (m_breaks : Nat) (m_row : Nat) (m_tried : Nat) (m_steps : Nat) (m_paths : Nat) (y_told : ClassId) (y_rules : ClassId) (y_rule : ClassId) (y_stair : ClassId) (f_told : Nat → Int32) (f_rules : Nat → Int32) (f_rule : Nat → Int32) (f_stair : Nat → Int32) (n : Int32) : cI l yX10_customs (.code yX10_customs cX10_customs 4 (some .int)) ({ frames := 5, cells := 0, slots := 0, locals := 114 }) D [(y_told, .boolean), (y_rules, .int), (y_rule, .int), (y_stair, .int)] [(h0, .inr (9, [.ref m_tape, .int 0, .int 0, .ref m_rule, .ref m_rules, .int 0, .ref m_stair, .int 0, .int 0, .int ((-1)), .int 5, .int 5, .ref m_low, .ref m_high, .ref m_crack, .int 0, .ref m_weight, .ref m_fire, .ref m_crowd, .ref m_state, .ref m_where, .int 0, .int 0, .int 0, .ref m_words, .int 0, .int 0, .int 0, .int 0, .int 0, .int 0, .ref m_told, .ref m_breaks, .ref m_row, .ref m_tried, .ref m_steps, .ref m_paths])), (m_told, .inl (y_told, 7, .inl f_told)), (m_rules, .inl (y_rules, 8, .inl f_rules)), (m_rule, .inl (y_rule, 8, .inl f_rule)), (m_stair, .inl (y_stair, 24, .inl f_stair))] xT [.ref h0, .int n] (S := Unit) (fun r _ => r = (if n = 0 then 0 else (-2))) (fun _ => []) (fun _ => []) := by
  intro sz
  refine Met.ofW (cc := cX10_customs) (maxL := 4) (ret := (some .int)) (by decide) rfl ?_
  intro p e s m args below meth c s₁ B hml hv
  obtain ⟨rfl, hsz, hP, hK, hD0, hX⟩ := hv
  have hx := B.exec
  have hb := B.bytes
  have hr := B.returns
  have hts0 := atoms_spec (ws := .code yX10_customs cX10_customs 4 (some .int) :: gw) B.pre
  have hts := fun (w : Cond) (h : w ∈ gw) => hts0 w (List.mem_cons_of_mem _ h)
  have hown : s.vm.findClass RX10 = some m.cls := findClass_of_methodNamed B.named
  have hlocks := B.notSynchronized
  have F : mFix p s m _ c cX10_customs 4 RX10 := ⟨hx, hb, hml, hown, hts⟩
  subst hsz
  have hD := hD0.self (sz := s.heap.size)
  generalize hAe : va_A [(h0, .inr (9, [.ref m_tape, .int 0, .int 0, .ref m_rule, .ref m_rules, .int 0, .ref m_stair, .int 0, .int 0, .int ((-1)), .int 5, .int 5, .ref m_low, .ref m_high, .ref m_crack, .int 0, .ref m_weight, .ref m_fire, .ref m_crowd, .ref m_state, .ref m_where, .int 0, .int 0, .int 0, .ref m_words, .int 0, .int 0, .int 0, .int 0, .int 0, .int 0, .ref m_told, .ref m_breaks, .ref m_row, .ref m_tried, .ref m_steps, .ref m_paths])), (m_told, .inl (y_told, 7, .inl f_told)), (m_rules, .inl (y_rules, 8, .inl f_rules)), (m_rule, .inl (y_rule, 8, .inl f_rule)), (m_stair, .inl (y_stair, 24, .inl f_stair))] s.heap.size = A at hD hX ⊢
  have hA : ∀ q : Nat, s.heap.size ≤ q → A q := fun q h => by rw [← hAe]; exact Or.inr h
  have hS : va_S A s.heap s.heap [] := va_S.rf
  have hl := lv_entry ([.ref h0, .int n]) (n := 4) (Nat.le_of_ble_eq_true rfl)
  rw [lg_entry_eq]
  generalize (lg_sl ([.ref h0, .int n]) ++ List.replicate (4 - (lg_sl ([.ref h0, .int n])).length) Slot.unset).toArray = ls at hl ⊢
  have hl : lv_has ls 4 [(0, .ref h0), (1, .int n)] := hl
  have hP : va_P D vwCl [(h0, .inr (9, [.ref m_tape, .int 0, .int 0, .ref m_rule, .ref m_rules, .int 0, .ref m_stair, .int 0, .int 0, .int ((-1)), .int 5, .int 5, .ref m_low, .ref m_high, .ref m_crack, .int 0, .ref m_weight, .ref m_fire, .ref m_crowd, .ref m_state, .ref m_where, .int 0, .int 0, .int 0, .ref m_words, .int 0, .int 0, .int 0, .int 0, .int 0, .int 0, .ref m_told, .ref m_breaks, .ref m_row, .ref m_tried, .ref m_steps, .ref m_paths])), (m_told, .inl (y_told, 7, .inl f_told)), (m_rules, .inl (y_rules, 8, .inl f_rules)), (m_rule, .inl (y_rule, 8, .inl f_rule)), (m_stair, .inl (y_stair, 24, .inl f_stair))] s.heap := hP
  refine lv_aload_n hx hb dX10_customs_0 rfl (lv_at hl 0 rfl) ?_
  refine lv_iconst (v := 0) hx hb dX10_customs_1 (by decide) ?_
  refine va_put (D := D) (ci := 9) (v := .int 0) (ty := .int) (C := RX10) (T := TX10) (N := 37) hx hb hts inG_X10 tyX10 tyX10_ok nmX10 hown hK hP hD hS 0 rfl rfl 2 (by decide) (hts _ kw_4_197) (fun _ h9 => h9) rfl (by decide +kernel) rfl rfl (Nat.le_of_ble_eq_true rfl) dX10_customs_2 (fun H locs hP hD hS => ?_)
  have hP : va_P D vwCl [(h0, .inr (9, [.ref m_tape, .int 0, .int 0, .ref m_rule, .ref m_rules, .int 0, .ref m_stair, .int 0, .int 0, .int ((-1)), .int 5, .int 5, .ref m_low, .ref m_high, .ref m_crack, .int 0, .ref m_weight, .ref m_fire, .ref m_crowd, .ref m_state, .ref m_where, .int 0, .int 0, .int 0, .ref m_words, .int 0, .int 0, .int 0, .int 0, .int 0, .int 0, .ref m_told, .ref m_breaks, .ref m_row, .ref m_tried, .ref m_steps, .ref m_paths])), (m_told, .inl (y_told, 7, .inl f_told)), (m_rules, .inl (y_rules, 8, .inl f_rules)), (m_rule, .inl (y_rule, 8, .inl f_rule)), (m_stair, .inl (y_stair, 24, .inl f_stair))] H := hP
  have hD : va_D A [(h0, .inr (9, [.ref m_tape, .int 0, .int 0, .ref m_rule, .ref m_rules, .int 0, .ref m_stair, .int 0, .int 0, .int ((-1)), .int 5, .int 5, .ref m_low, .ref m_high, .ref m_crack, .int 0, .ref m_weight, .ref m_fire, .ref m_crowd, .ref m_state, .ref m_where, .int 0, .int 0, .int 0, .ref m_words, .int 0, .int 0, .int 0, .int 0, .int 0, .int 0, .ref m_told, .ref m_breaks, .ref m_row, .ref m_tried, .ref m_steps, .ref m_paths])), (m_told, .inl (y_told, 7, .inl f_told)), (m_rules, .inl (y_rules, 8, .inl f_rules)), (m_rule, .inl (y_rule, 8, .inl f_rule)), (m_stair, .inl (y_stair, 24, .inl f_stair))] := hD
  refine lv_iload_n hx hb dX10_customs_5 rfl (lv_at hl 1 rfl) ?_
  refine lv_if_lt (tgt := 17) hx hb dX10_customs_6 (by decide) (fun c_1 => ?_) (fun c_1 => ?_)
  · skip
    refine lv_bipush (v := -2) hx hb dX10_customs_17 (by decide) ?_
    have hP9 := hP.sub (ws' := []) [] rfl
    have hD9 := hD.sub (ws' := []) [] (by decide) rfl
    have hK9 := hK.sub (tys' := []) [] rfl
    refine W.widen (k := 0) (n := 0) (by decide) (by decide) ?_
    exact W.iret (v := (-2)) hx hb hr (fun t ht hW => ⟨⟨((-2)), (), rfl, by rw [if_neg (fun h => by rw [h] at c_1; exact absurd c_1 (by decide))], by rw [ht]; exact hP9, va_K.moved hW.alike hK9, hD9⟩, hS.F ht⟩) hS.2.2 dX10_customs_19
  · skip
    refine lv_iload_n hx hb dX10_customs_9 rfl (lv_at hl 1 rfl) ?_
    refine lv_aload_n hx hb dX10_customs_10 rfl (lv_at hl 0 rfl) ?_
    refine va_get (D := D) (ci := 9) (v := .int 0) (C := RX10) (T := TX10) (N := 37) hx hb hts inG_X10 hown hK hP 0 rfl rfl 1 (by decide) (hts _ kw_4_196) (fun _ h9 => h9) rfl dX10_customs_11 ?_
    refine lv_icmp_le (tgt := 20) hx hb dX10_customs_14 (by decide) (fun c_2 => ?_) (fun c_2 => ?_)
    · skip
      have c_2 := Int32.not_lt.mpr c_2
      obtain rfl : n = 0 := Int32.le_antisymm (Int32.not_lt.mp c_2) (Int32.not_lt.mp c_1)
      have hl : lv_has ls 4 [(0, .ref h0), (1, .int 0)] := hl
      refine lv_aload_n hx hb dX10_customs_20 rfl (lv_at hl 0 rfl) ?_
      refine lv_iload_n hx hb dX10_customs_21 rfl (lv_at hl 1 rfl) ?_
      refine va_put (D := D) (ci := 9) (v := .int 0) (ty := .int) (C := RX10) (T := TX10) (N := 37) hx hb hts inG_X10 tyX10 tyX10_ok nmX10 hown hK hP hD hS 0 rfl rfl 25 (by decide) (hts _ kw_4_220) (fun _ h9 => h9) rfl (by decide +kernel) rfl rfl (Nat.le_of_ble_eq_true rfl) dX10_customs_22 (fun H locs hP hD hS => ?_)
      have hP : va_P D vwCl [(h0, .inr (9, [.ref m_tape, .int 0, .int 0, .ref m_rule, .ref m_rules, .int 0, .ref m_stair, .int 0, .int 0, .int ((-1)), .int 5, .int 5, .ref m_low, .ref m_high, .ref m_crack, .int 0, .ref m_weight, .ref m_fire, .ref m_crowd, .ref m_state, .ref m_where, .int 0, .int 0, .int 0, .ref m_words, .int 0, .int 0, .int 0, .int 0, .int 0, .int 0, .ref m_told, .ref m_breaks, .ref m_row, .ref m_tried, .ref m_steps, .ref m_paths])), (m_told, .inl (y_told, 7, .inl f_told)), (m_rules, .inl (y_rules, 8, .inl f_rules)), (m_rule, .inl (y_rule, 8, .inl f_rule)), (m_stair, .inl (y_stair, 24, .inl f_stair))] H := hP
      have hD : va_D A [(h0, .inr (9, [.ref m_tape, .int 0, .int 0, .ref m_rule, .ref m_rules, .int 0, .ref m_stair, .int 0, .int 0, .int ((-1)), .int 5, .int 5, .ref m_low, .ref m_high, .ref m_crack, .int 0, .ref m_weight, .ref m_fire, .ref m_crowd, .ref m_state, .ref m_where, .int 0, .int 0, .int 0, .ref m_words, .int 0, .int 0, .int 0, .int 0, .int 0, .int 0, .ref m_told, .ref m_breaks, .ref m_row, .ref m_tried, .ref m_steps, .ref m_paths])), (m_told, .inl (y_told, 7, .inl f_told)), (m_rules, .inl (y_rules, 8, .inl f_rules)), (m_rule, .inl (y_rule, 8, .inl f_rule)), (m_stair, .inl (y_stair, 24, .inl f_stair))] := hD
      refine lv_aload_n hx hb dX10_customs_25 rfl (lv_at hl 0 rfl) ?_
      refine lv_iconst (v := 0) hx hb dX10_customs_26 (by decide) ?_
      refine va_put (D := D) (ci := 9) (v := .int 0) (ty := .int) (C := RX10) (T := TX10) (N := 37) hx hb hts inG_X10 tyX10 tyX10_ok nmX10 hown hK hP hD hS 0 rfl rfl 1 (by decide) (hts _ kw_4_196) (fun _ h9 => h9) rfl (by decide +kernel) rfl rfl (Nat.le_of_ble_eq_true rfl) dX10_customs_27 (fun H locs hP hD hS => ?_)
      have hP : va_P D vwCl [(h0, .inr (9, [.ref m_tape, .int 0, .int 0, .ref m_rule, .ref m_rules, .int 0, .ref m_stair, .int 0, .int 0, .int ((-1)), .int 5, .int 5, .ref m_low, .ref m_high, .ref m_crack, .int 0, .ref m_weight, .ref m_fire, .ref m_crowd, .ref m_state, .ref m_where, .int 0, .int 0, .int 0, .ref m_words, .int 0, .int 0, .int 0, .int 0, .int 0, .int 0, .ref m_told, .ref m_breaks, .ref m_row, .ref m_tried, .ref m_steps, .ref m_paths])), (m_told, .inl (y_told, 7, .inl f_told)), (m_rules, .inl (y_rules, 8, .inl f_rules)), (m_rule, .inl (y_rule, 8, .inl f_rule)), (m_stair, .inl (y_stair, 24, .inl f_stair))] H := hP
      have hD : va_D A [(h0, .inr (9, [.ref m_tape, .int 0, .int 0, .ref m_rule, .ref m_rules, .int 0, .ref m_stair, .int 0, .int 0, .int ((-1)), .int 5, .int 5, .ref m_low, .ref m_high, .ref m_crack, .int 0, .ref m_weight, .ref m_fire, .ref m_crowd, .ref m_state, .ref m_where, .int 0, .int 0, .int 0, .ref m_words, .int 0, .int 0, .int 0, .int 0, .int 0, .int 0, .ref m_told, .ref m_breaks, .ref m_row, .ref m_tried, .ref m_steps, .ref m_paths])), (m_told, .inl (y_told, 7, .inl f_told)), (m_rules, .inl (y_rules, 8, .inl f_rules)), (m_rule, .inl (y_rule, 8, .inl f_rule)), (m_stair, .inl (y_stair, 24, .inl f_stair))] := hD
      refine lv_aload_n hx hb dX10_customs_30 rfl (lv_at hl 0 rfl) ?_
      refine lv_iconst (v := 0) hx hb dX10_customs_31 (by decide) ?_
      refine va_put (D := D) (ci := 9) (v := .int 0) (ty := .int) (C := RX10) (T := TX10) (N := 37) hx hb hts inG_X10 tyX10 tyX10_ok nmX10 hown hK hP hD hS 0 rfl rfl 8 (by decide) (hts _ kw_4_203) (fun _ h9 => h9) rfl (by decide +kernel) rfl rfl (Nat.le_of_ble_eq_true rfl) dX10_customs_32 (fun H locs hP hD hS => ?_)
      have hP : va_P D vwCl [(h0, .inr (9, [.ref m_tape, .int 0, .int 0, .ref m_rule, .ref m_rules, .int 0, .ref m_stair, .int 0, .int 0, .int ((-1)), .int 5, .int 5, .ref m_low, .ref m_high, .ref m_crack, .int 0, .ref m_weight, .ref m_fire, .ref m_crowd, .ref m_state, .ref m_where, .int 0, .int 0, .int 0, .ref m_words, .int 0, .int 0, .int 0, .int 0, .int 0, .int 0, .ref m_told, .ref m_breaks, .ref m_row, .ref m_tried, .ref m_steps, .ref m_paths])), (m_told, .inl (y_told, 7, .inl f_told)), (m_rules, .inl (y_rules, 8, .inl f_rules)), (m_rule, .inl (y_rule, 8, .inl f_rule)), (m_stair, .inl (y_stair, 24, .inl f_stair))] H := hP
      have hD : va_D A [(h0, .inr (9, [.ref m_tape, .int 0, .int 0, .ref m_rule, .ref m_rules, .int 0, .ref m_stair, .int 0, .int 0, .int ((-1)), .int 5, .int 5, .ref m_low, .ref m_high, .ref m_crack, .int 0, .ref m_weight, .ref m_fire, .ref m_crowd, .ref m_state, .ref m_where, .int 0, .int 0, .int 0, .ref m_words, .int 0, .int 0, .int 0, .int 0, .int 0, .int 0, .ref m_told, .ref m_breaks, .ref m_row, .ref m_tried, .ref m_steps, .ref m_paths])), (m_told, .inl (y_told, 7, .inl f_told)), (m_rules, .inl (y_rules, 8, .inl f_rules)), (m_rule, .inl (y_rule, 8, .inl f_rule)), (m_stair, .inl (y_stair, 24, .inl f_stair))] := hD
      refine lv_aload_n hx hb dX10_customs_35 rfl (lv_at hl 0 rfl) ?_
      refine lv_iconst (v := -1) hx hb dX10_customs_36 (by decide) ?_
      refine va_put (D := D) (ci := 9) (v := .int ((-1))) (ty := .int) (C := RX10) (T := TX10) (N := 37) hx hb hts inG_X10 tyX10 tyX10_ok nmX10 hown hK hP hD hS 0 rfl rfl 9 (by decide) (hts _ kw_4_204) (fun _ h9 => h9) rfl (by decide +kernel) rfl rfl (Nat.le_of_ble_eq_true rfl) dX10_customs_37 (fun H locs hP hD hS => ?_)
      have hP : va_P D vwCl [(h0, .inr (9, [.ref m_tape, .int 0, .int 0, .ref m_rule, .ref m_rules, .int 0, .ref m_stair, .int 0, .int 0, .int ((-1)), .int 5, .int 5, .ref m_low, .ref m_high, .ref m_crack, .int 0, .ref m_weight, .ref m_fire, .ref m_crowd, .ref m_state, .ref m_where, .int 0, .int 0, .int 0, .ref m_words, .int 0, .int 0, .int 0, .int 0, .int 0, .int 0, .ref m_told, .ref m_breaks, .ref m_row, .ref m_tried, .ref m_steps, .ref m_paths])), (m_told, .inl (y_told, 7, .inl f_told)), (m_rules, .inl (y_rules, 8, .inl f_rules)), (m_rule, .inl (y_rule, 8, .inl f_rule)), (m_stair, .inl (y_stair, 24, .inl f_stair))] H := hP
      have hD : va_D A [(h0, .inr (9, [.ref m_tape, .int 0, .int 0, .ref m_rule, .ref m_rules, .int 0, .ref m_stair, .int 0, .int 0, .int ((-1)), .int 5, .int 5, .ref m_low, .ref m_high, .ref m_crack, .int 0, .ref m_weight, .ref m_fire, .ref m_crowd, .ref m_state, .ref m_where, .int 0, .int 0, .int 0, .ref m_words, .int 0, .int 0, .int 0, .int 0, .int 0, .int 0, .ref m_told, .ref m_breaks, .ref m_row, .ref m_tried, .ref m_steps, .ref m_paths])), (m_told, .inl (y_told, 7, .inl f_told)), (m_rules, .inl (y_rules, 8, .inl f_rules)), (m_rule, .inl (y_rule, 8, .inl f_rule)), (m_stair, .inl (y_stair, 24, .inl f_stair))] := hD
      refine lv_iconst (v := 0) hx hb dX10_customs_40 (by decide) ?_
      refine lv_istore_n (lv' := [(2, .int 0), (0, .ref h0), (1, .int 0)]) hx hb dX10_customs_41 rfl hl (by decide) rfl (fun ls hl => ?_)
      refine lp_m_cu1 F hA h0 m_tape m_rule m_rules m_stair m_low m_high m_crack m_weight m_fire m_crowd m_state m_where m_words m_told m_breaks m_row m_tried m_steps m_paths y_told y_rules y_rule y_stair f_rules f_rule f_stair (hK.sub [0, 1, 2, 3] rfl) (fun ga_3  H locs hP hD hS ls hl => ?_) _ f_told 0 (by omega) (Nat.lt_succ_self _) _ _ (hP.sub [0, 1, 2, 3, 4] rfl) (hD.sub [0, 1, 2, 3, 4] (by decide) rfl) hS ls (lv_sub hl [1, 0] rfl)
      refine lv_aload_n hx hb dX10_customs_61 rfl (lv_at hl 0 rfl) ?_
      refine va_get (D := D) (ci := 9) (v := .ref m_rules) (C := RX10) (T := TX10) (N := 37) hx hb hts inG_X10 hown hK hP 0 rfl rfl 4 (by decide) (hts _ kw_4_199) (fun _ h9 => h9) rfl dX10_customs_62 ?_
      refine lv_iconst (v := 0) hx hb dX10_customs_65 (by decide) ?_
      refine lv_bipush (v := 100) hx hb dX10_customs_66 (by decide) ?_
      refine m_iast hx hb hK hP hD hS 2 1 rfl rfl 0 rfl (by decide) (by decide) dX10_customs_68 (fun g_4 H locs eg_4 hP hD hS => ?_)
      have hP : va_P D vwCl [(h0, .inr (9, [.ref m_tape, .int 0, .int 0, .ref m_rule, .ref m_rules, .int 0, .ref m_stair, .int 0, .int 0, .int ((-1)), .int 5, .int 5, .ref m_low, .ref m_high, .ref m_crack, .int 0, .ref m_weight, .ref m_fire, .ref m_crowd, .ref m_state, .ref m_where, .int 0, .int 0, .int 0, .ref m_words, .int 0, .int 0, .int 0, .int 0, .int 0, .int 0, .ref m_told, .ref m_breaks, .ref m_row, .ref m_tried, .ref m_steps, .ref m_paths])), (m_told, .inl (y_told, 7, .inl ga_3)), (m_rules, .inl (y_rules, 8, .inl g_4)), (m_rule, .inl (y_rule, 8, .inl f_rule)), (m_stair, .inl (y_stair, 24, .inl f_stair))] H := hP
      have hD : va_D A [(h0, .inr (9, [.ref m_tape, .int 0, .int 0, .ref m_rule, .ref m_rules, .int 0, .ref m_stair, .int 0, .int 0, .int ((-1)), .int 5, .int 5, .ref m_low, .ref m_high, .ref m_crack, .int 0, .ref m_weight, .ref m_fire, .ref m_crowd, .ref m_state, .ref m_where, .int 0, .int 0, .int 0, .ref m_words, .int 0, .int 0, .int 0, .int 0, .int 0, .int 0, .ref m_told, .ref m_breaks, .ref m_row, .ref m_tried, .ref m_steps, .ref m_paths])), (m_told, .inl (y_told, 7, .inl ga_3)), (m_rules, .inl (y_rules, 8, .inl g_4)), (m_rule, .inl (y_rule, 8, .inl f_rule)), (m_stair, .inl (y_stair, 24, .inl f_stair))] := hD
      refine lv_aload_n hx hb dX10_customs_69 rfl (lv_at hl 0 rfl) ?_
      refine va_get (D := D) (ci := 9) (v := .ref m_rules) (C := RX10) (T := TX10) (N := 37) hx hb hts inG_X10 hown hK hP 0 rfl rfl 4 (by decide) (hts _ kw_4_199) (fun _ h9 => h9) rfl dX10_customs_70 ?_
      refine lv_iconst (v := 1) hx hb dX10_customs_73 (by decide) ?_
      refine lv_iconst (v := 1) hx hb dX10_customs_74 (by decide) ?_
      refine m_iast hx hb hK hP hD hS 2 1 rfl rfl 1 rfl (by decide) (by decide) dX10_customs_75 (fun g_5 H locs eg_5 hP hD hS => ?_)
      have hP : va_P D vwCl [(h0, .inr (9, [.ref m_tape, .int 0, .int 0, .ref m_rule, .ref m_rules, .int 0, .ref m_stair, .int 0, .int 0, .int ((-1)), .int 5, .int 5, .ref m_low, .ref m_high, .ref m_crack, .int 0, .ref m_weight, .ref m_fire, .ref m_crowd, .ref m_state, .ref m_where, .int 0, .int 0, .int 0, .ref m_words, .int 0, .int 0, .int 0, .int 0, .int 0, .int 0, .ref m_told, .ref m_breaks, .ref m_row, .ref m_tried, .ref m_steps, .ref m_paths])), (m_told, .inl (y_told, 7, .inl ga_3)), (m_rules, .inl (y_rules, 8, .inl g_5)), (m_rule, .inl (y_rule, 8, .inl f_rule)), (m_stair, .inl (y_stair, 24, .inl f_stair))] H := hP
      have hD : va_D A [(h0, .inr (9, [.ref m_tape, .int 0, .int 0, .ref m_rule, .ref m_rules, .int 0, .ref m_stair, .int 0, .int 0, .int ((-1)), .int 5, .int 5, .ref m_low, .ref m_high, .ref m_crack, .int 0, .ref m_weight, .ref m_fire, .ref m_crowd, .ref m_state, .ref m_where, .int 0, .int 0, .int 0, .ref m_words, .int 0, .int 0, .int 0, .int 0, .int 0, .int 0, .ref m_told, .ref m_breaks, .ref m_row, .ref m_tried, .ref m_steps, .ref m_paths])), (m_told, .inl (y_told, 7, .inl ga_3)), (m_rules, .inl (y_rules, 8, .inl g_5)), (m_rule, .inl (y_rule, 8, .inl f_rule)), (m_stair, .inl (y_stair, 24, .inl f_stair))] := hD
      refine lv_aload_n hx hb dX10_customs_76 rfl (lv_at hl 0 rfl) ?_
      refine va_get (D := D) (ci := 9) (v := .ref m_rules) (C := RX10) (T := TX10) (N := 37) hx hb hts inG_X10 hown hK hP 0 rfl rfl 4 (by decide) (hts _ kw_4_199) (fun _ h9 => h9) rfl dX10_customs_77 ?_
      refine lv_iconst (v := 2) hx hb dX10_customs_80 (by decide) ?_
      refine lv_iconst (v := 0) hx hb dX10_customs_81 (by decide) ?_
      refine m_iast hx hb hK hP hD hS 2 1 rfl rfl 2 rfl (by decide) (by decide) dX10_customs_82 (fun g_6 H locs eg_6 hP hD hS => ?_)
      have hP : va_P D vwCl [(h0, .inr (9, [.ref m_tape, .int 0, .int 0, .ref m_rule, .ref m_rules, .int 0, .ref m_stair, .int 0, .int 0, .int ((-1)), .int 5, .int 5, .ref m_low, .ref m_high, .ref m_crack, .int 0, .ref m_weight, .ref m_fire, .ref m_crowd, .ref m_state, .ref m_where, .int 0, .int 0, .int 0, .ref m_words, .int 0, .int 0, .int 0, .int 0, .int 0, .int 0, .ref m_told, .ref m_breaks, .ref m_row, .ref m_tried, .ref m_steps, .ref m_paths])), (m_told, .inl (y_told, 7, .inl ga_3)), (m_rules, .inl (y_rules, 8, .inl g_6)), (m_rule, .inl (y_rule, 8, .inl f_rule)), (m_stair, .inl (y_stair, 24, .inl f_stair))] H := hP
      have hD : va_D A [(h0, .inr (9, [.ref m_tape, .int 0, .int 0, .ref m_rule, .ref m_rules, .int 0, .ref m_stair, .int 0, .int 0, .int ((-1)), .int 5, .int 5, .ref m_low, .ref m_high, .ref m_crack, .int 0, .ref m_weight, .ref m_fire, .ref m_crowd, .ref m_state, .ref m_where, .int 0, .int 0, .int 0, .ref m_words, .int 0, .int 0, .int 0, .int 0, .int 0, .int 0, .ref m_told, .ref m_breaks, .ref m_row, .ref m_tried, .ref m_steps, .ref m_paths])), (m_told, .inl (y_told, 7, .inl ga_3)), (m_rules, .inl (y_rules, 8, .inl g_6)), (m_rule, .inl (y_rule, 8, .inl f_rule)), (m_stair, .inl (y_stair, 24, .inl f_stair))] := hD
      refine lv_aload_n hx hb dX10_customs_83 rfl (lv_at hl 0 rfl) ?_
      refine va_get (D := D) (ci := 9) (v := .ref m_rules) (C := RX10) (T := TX10) (N := 37) hx hb hts inG_X10 hown hK hP 0 rfl rfl 4 (by decide) (hts _ kw_4_199) (fun _ h9 => h9) rfl dX10_customs_84 ?_
      refine lv_iconst (v := 3) hx hb dX10_customs_87 (by decide) ?_
      refine lv_iconst (v := 0) hx hb dX10_customs_88 (by decide) ?_
      refine m_iast hx hb hK hP hD hS 2 1 rfl rfl 3 rfl (by decide) (by decide) dX10_customs_89 (fun g_7 H locs eg_7 hP hD hS => ?_)
      have hP : va_P D vwCl [(h0, .inr (9, [.ref m_tape, .int 0, .int 0, .ref m_rule, .ref m_rules, .int 0, .ref m_stair, .int 0, .int 0, .int ((-1)), .int 5, .int 5, .ref m_low, .ref m_high, .ref m_crack, .int 0, .ref m_weight, .ref m_fire, .ref m_crowd, .ref m_state, .ref m_where, .int 0, .int 0, .int 0, .ref m_words, .int 0, .int 0, .int 0, .int 0, .int 0, .int 0, .ref m_told, .ref m_breaks, .ref m_row, .ref m_tried, .ref m_steps, .ref m_paths])), (m_told, .inl (y_told, 7, .inl ga_3)), (m_rules, .inl (y_rules, 8, .inl g_7)), (m_rule, .inl (y_rule, 8, .inl f_rule)), (m_stair, .inl (y_stair, 24, .inl f_stair))] H := hP
      have hD : va_D A [(h0, .inr (9, [.ref m_tape, .int 0, .int 0, .ref m_rule, .ref m_rules, .int 0, .ref m_stair, .int 0, .int 0, .int ((-1)), .int 5, .int 5, .ref m_low, .ref m_high, .ref m_crack, .int 0, .ref m_weight, .ref m_fire, .ref m_crowd, .ref m_state, .ref m_where, .int 0, .int 0, .int 0, .ref m_words, .int 0, .int 0, .int 0, .int 0, .int 0, .int 0, .ref m_told, .ref m_breaks, .ref m_row, .ref m_tried, .ref m_steps, .ref m_paths])), (m_told, .inl (y_told, 7, .inl ga_3)), (m_rules, .inl (y_rules, 8, .inl g_7)), (m_rule, .inl (y_rule, 8, .inl f_rule)), (m_stair, .inl (y_stair, 24, .inl f_stair))] := hD
      refine lv_aload_n hx hb dX10_customs_90 rfl (lv_at hl 0 rfl) ?_
      refine va_get (D := D) (ci := 9) (v := .ref m_rules) (C := RX10) (T := TX10) (N := 37) hx hb hts inG_X10 hown hK hP 0 rfl rfl 4 (by decide) (hts _ kw_4_199) (fun _ h9 => h9) rfl dX10_customs_91 ?_
      refine lv_iconst (v := 4) hx hb dX10_customs_94 (by decide) ?_
      refine lv_iconst (v := 1) hx hb dX10_customs_95 (by decide) ?_
      refine m_iast hx hb hK hP hD hS 2 1 rfl rfl 4 rfl (by decide) (by decide) dX10_customs_96 (fun g_8 H locs eg_8 hP hD hS => ?_)
      have hP : va_P D vwCl [(h0, .inr (9, [.ref m_tape, .int 0, .int 0, .ref m_rule, .ref m_rules, .int 0, .ref m_stair, .int 0, .int 0, .int ((-1)), .int 5, .int 5, .ref m_low, .ref m_high, .ref m_crack, .int 0, .ref m_weight, .ref m_fire, .ref m_crowd, .ref m_state, .ref m_where, .int 0, .int 0, .int 0, .ref m_words, .int 0, .int 0, .int 0, .int 0, .int 0, .int 0, .ref m_told, .ref m_breaks, .ref m_row, .ref m_tried, .ref m_steps, .ref m_paths])), (m_told, .inl (y_told, 7, .inl ga_3)), (m_rules, .inl (y_rules, 8, .inl g_8)), (m_rule, .inl (y_rule, 8, .inl f_rule)), (m_stair, .inl (y_stair, 24, .inl f_stair))] H := hP
      have hD : va_D A [(h0, .inr (9, [.ref m_tape, .int 0, .int 0, .ref m_rule, .ref m_rules, .int 0, .ref m_stair, .int 0, .int 0, .int ((-1)), .int 5, .int 5, .ref m_low, .ref m_high, .ref m_crack, .int 0, .ref m_weight, .ref m_fire, .ref m_crowd, .ref m_state, .ref m_where, .int 0, .int 0, .int 0, .ref m_words, .int 0, .int 0, .int 0, .int 0, .int 0, .int 0, .ref m_told, .ref m_breaks, .ref m_row, .ref m_tried, .ref m_steps, .ref m_paths])), (m_told, .inl (y_told, 7, .inl ga_3)), (m_rules, .inl (y_rules, 8, .inl g_8)), (m_rule, .inl (y_rule, 8, .inl f_rule)), (m_stair, .inl (y_stair, 24, .inl f_stair))] := hD
      refine lv_aload_n hx hb dX10_customs_97 rfl (lv_at hl 0 rfl) ?_
      refine va_get (D := D) (ci := 9) (v := .ref m_rules) (C := RX10) (T := TX10) (N := 37) hx hb hts inG_X10 hown hK hP 0 rfl rfl 4 (by decide) (hts _ kw_4_199) (fun _ h9 => h9) rfl dX10_customs_98 ?_
      refine lv_iconst (v := 5) hx hb dX10_customs_101 (by decide) ?_
      refine lv_bipush (v := 99) hx hb dX10_customs_102 (by decide) ?_
      refine m_iast hx hb hK hP hD hS 2 1 rfl rfl 5 rfl (by decide) (by decide) dX10_customs_104 (fun g_9 H locs eg_9 hP hD hS => ?_)
      have hP : va_P D vwCl [(h0, .inr (9, [.ref m_tape, .int 0, .int 0, .ref m_rule, .ref m_rules, .int 0, .ref m_stair, .int 0, .int 0, .int ((-1)), .int 5, .int 5, .ref m_low, .ref m_high, .ref m_crack, .int 0, .ref m_weight, .ref m_fire, .ref m_crowd, .ref m_state, .ref m_where, .int 0, .int 0, .int 0, .ref m_words, .int 0, .int 0, .int 0, .int 0, .int 0, .int 0, .ref m_told, .ref m_breaks, .ref m_row, .ref m_tried, .ref m_steps, .ref m_paths])), (m_told, .inl (y_told, 7, .inl ga_3)), (m_rules, .inl (y_rules, 8, .inl g_9)), (m_rule, .inl (y_rule, 8, .inl f_rule)), (m_stair, .inl (y_stair, 24, .inl f_stair))] H := hP
      have hD : va_D A [(h0, .inr (9, [.ref m_tape, .int 0, .int 0, .ref m_rule, .ref m_rules, .int 0, .ref m_stair, .int 0, .int 0, .int ((-1)), .int 5, .int 5, .ref m_low, .ref m_high, .ref m_crack, .int 0, .ref m_weight, .ref m_fire, .ref m_crowd, .ref m_state, .ref m_where, .int 0, .int 0, .int 0, .ref m_words, .int 0, .int 0, .int 0, .int 0, .int 0, .int 0, .ref m_told, .ref m_breaks, .ref m_row, .ref m_tried, .ref m_steps, .ref m_paths])), (m_told, .inl (y_told, 7, .inl ga_3)), (m_rules, .inl (y_rules, 8, .inl g_9)), (m_rule, .inl (y_rule, 8, .inl f_rule)), (m_stair, .inl (y_stair, 24, .inl f_stair))] := hD
      refine lv_aload_n hx hb dX10_customs_105 rfl (lv_at hl 0 rfl) ?_
      refine va_get (D := D) (ci := 9) (v := .ref m_rules) (C := RX10) (T := TX10) (N := 37) hx hb hts inG_X10 hown hK hP 0 rfl rfl 4 (by decide) (hts _ kw_4_199) (fun _ h9 => h9) rfl dX10_customs_106 ?_
      refine lv_bipush (v := 6) hx hb dX10_customs_109 (by decide) ?_
      refine lv_iconst (v := 1) hx hb dX10_customs_111 (by decide) ?_
      refine m_iast hx hb hK hP hD hS 2 1 rfl rfl 6 rfl (by decide) (by decide) dX10_customs_112 (fun g_10 H locs eg_10 hP hD hS => ?_)
      have hP : va_P D vwCl [(h0, .inr (9, [.ref m_tape, .int 0, .int 0, .ref m_rule, .ref m_rules, .int 0, .ref m_stair, .int 0, .int 0, .int ((-1)), .int 5, .int 5, .ref m_low, .ref m_high, .ref m_crack, .int 0, .ref m_weight, .ref m_fire, .ref m_crowd, .ref m_state, .ref m_where, .int 0, .int 0, .int 0, .ref m_words, .int 0, .int 0, .int 0, .int 0, .int 0, .int 0, .ref m_told, .ref m_breaks, .ref m_row, .ref m_tried, .ref m_steps, .ref m_paths])), (m_told, .inl (y_told, 7, .inl ga_3)), (m_rules, .inl (y_rules, 8, .inl g_10)), (m_rule, .inl (y_rule, 8, .inl f_rule)), (m_stair, .inl (y_stair, 24, .inl f_stair))] H := hP
      have hD : va_D A [(h0, .inr (9, [.ref m_tape, .int 0, .int 0, .ref m_rule, .ref m_rules, .int 0, .ref m_stair, .int 0, .int 0, .int ((-1)), .int 5, .int 5, .ref m_low, .ref m_high, .ref m_crack, .int 0, .ref m_weight, .ref m_fire, .ref m_crowd, .ref m_state, .ref m_where, .int 0, .int 0, .int 0, .ref m_words, .int 0, .int 0, .int 0, .int 0, .int 0, .int 0, .ref m_told, .ref m_breaks, .ref m_row, .ref m_tried, .ref m_steps, .ref m_paths])), (m_told, .inl (y_told, 7, .inl ga_3)), (m_rules, .inl (y_rules, 8, .inl g_10)), (m_rule, .inl (y_rule, 8, .inl f_rule)), (m_stair, .inl (y_stair, 24, .inl f_stair))] := hD
      refine lv_aload_n hx hb dX10_customs_113 rfl (lv_at hl 0 rfl) ?_
      refine va_get (D := D) (ci := 9) (v := .ref m_rules) (C := RX10) (T := TX10) (N := 37) hx hb hts inG_X10 hown hK hP 0 rfl rfl 4 (by decide) (hts _ kw_4_199) (fun _ h9 => h9) rfl dX10_customs_114 ?_
      refine lv_bipush (v := 7) hx hb dX10_customs_117 (by decide) ?_
      refine lv_iconst (v := 0) hx hb dX10_customs_119 (by decide) ?_
      refine m_iast hx hb hK hP hD hS 2 1 rfl rfl 7 rfl (by decide) (by decide) dX10_customs_120 (fun g_11 H locs eg_11 hP hD hS => ?_)
      have hP : va_P D vwCl [(h0, .inr (9, [.ref m_tape, .int 0, .int 0, .ref m_rule, .ref m_rules, .int 0, .ref m_stair, .int 0, .int 0, .int ((-1)), .int 5, .int 5, .ref m_low, .ref m_high, .ref m_crack, .int 0, .ref m_weight, .ref m_fire, .ref m_crowd, .ref m_state, .ref m_where, .int 0, .int 0, .int 0, .ref m_words, .int 0, .int 0, .int 0, .int 0, .int 0, .int 0, .ref m_told, .ref m_breaks, .ref m_row, .ref m_tried, .ref m_steps, .ref m_paths])), (m_told, .inl (y_told, 7, .inl ga_3)), (m_rules, .inl (y_rules, 8, .inl g_11)), (m_rule, .inl (y_rule, 8, .inl f_rule)), (m_stair, .inl (y_stair, 24, .inl f_stair))] H := hP
      have hD : va_D A [(h0, .inr (9, [.ref m_tape, .int 0, .int 0, .ref m_rule, .ref m_rules, .int 0, .ref m_stair, .int 0, .int 0, .int ((-1)), .int 5, .int 5, .ref m_low, .ref m_high, .ref m_crack, .int 0, .ref m_weight, .ref m_fire, .ref m_crowd, .ref m_state, .ref m_where, .int 0, .int 0, .int 0, .ref m_words, .int 0, .int 0, .int 0, .int 0, .int 0, .int 0, .ref m_told, .ref m_breaks, .ref m_row, .ref m_tried, .ref m_steps, .ref m_paths])), (m_told, .inl (y_told, 7, .inl ga_3)), (m_rules, .inl (y_rules, 8, .inl g_11)), (m_rule, .inl (y_rule, 8, .inl f_rule)), (m_stair, .inl (y_stair, 24, .inl f_stair))] := hD
      refine lv_aload_n hx hb dX10_customs_121 rfl (lv_at hl 0 rfl) ?_
      refine lv_iconst (v := 0) hx hb dX10_customs_122 (by decide) ?_
      refine va_put (D := D) (ci := 9) (v := .int 0) (ty := .int) (C := RX10) (T := TX10) (N := 37) hx hb hts inG_X10 tyX10 tyX10_ok nmX10 hown hK hP hD hS 0 rfl rfl 7 (by decide) (hts _ kw_4_202) (fun _ h9 => h9) rfl (by decide +kernel) rfl rfl (Nat.le_of_ble_eq_true rfl) dX10_customs_123 (fun H locs hP hD hS => ?_)
      have hP : va_P D vwCl [(h0, .inr (9, [.ref m_tape, .int 0, .int 0, .ref m_rule, .ref m_rules, .int 0, .ref m_stair, .int 0, .int 0, .int ((-1)), .int 5, .int 5, .ref m_low, .ref m_high, .ref m_crack, .int 0, .ref m_weight, .ref m_fire, .ref m_crowd, .ref m_state, .ref m_where, .int 0, .int 0, .int 0, .ref m_words, .int 0, .int 0, .int 0, .int 0, .int 0, .int 0, .ref m_told, .ref m_breaks, .ref m_row, .ref m_tried, .ref m_steps, .ref m_paths])), (m_told, .inl (y_told, 7, .inl ga_3)), (m_rules, .inl (y_rules, 8, .inl g_11)), (m_rule, .inl (y_rule, 8, .inl f_rule)), (m_stair, .inl (y_stair, 24, .inl f_stair))] H := hP
      have hD : va_D A [(h0, .inr (9, [.ref m_tape, .int 0, .int 0, .ref m_rule, .ref m_rules, .int 0, .ref m_stair, .int 0, .int 0, .int ((-1)), .int 5, .int 5, .ref m_low, .ref m_high, .ref m_crack, .int 0, .ref m_weight, .ref m_fire, .ref m_crowd, .ref m_state, .ref m_where, .int 0, .int 0, .int 0, .ref m_words, .int 0, .int 0, .int 0, .int 0, .int 0, .int 0, .ref m_told, .ref m_breaks, .ref m_row, .ref m_tried, .ref m_steps, .ref m_paths])), (m_told, .inl (y_told, 7, .inl ga_3)), (m_rules, .inl (y_rules, 8, .inl g_11)), (m_rule, .inl (y_rule, 8, .inl f_rule)), (m_stair, .inl (y_stair, 24, .inl f_stair))] := hD
      refine lv_aload_n hx hb dX10_customs_126 rfl (lv_at hl 0 rfl) ?_
      refine lv_iconst (v := 0) hx hb dX10_customs_127 (by decide) ?_
      refine va_put (D := D) (ci := 9) (v := .int 0) (ty := .int) (C := RX10) (T := TX10) (N := 37) hx hb hts inG_X10 tyX10 tyX10_ok nmX10 hown hK hP hD hS 0 rfl rfl 26 (by decide) (hts _ kw_4_221) (fun _ h9 => h9) rfl (by decide +kernel) rfl rfl (Nat.le_of_ble_eq_true rfl) dX10_customs_128 (fun H locs hP hD hS => ?_)
      have hP : va_P D vwCl [(h0, .inr (9, [.ref m_tape, .int 0, .int 0, .ref m_rule, .ref m_rules, .int 0, .ref m_stair, .int 0, .int 0, .int ((-1)), .int 5, .int 5, .ref m_low, .ref m_high, .ref m_crack, .int 0, .ref m_weight, .ref m_fire, .ref m_crowd, .ref m_state, .ref m_where, .int 0, .int 0, .int 0, .ref m_words, .int 0, .int 0, .int 0, .int 0, .int 0, .int 0, .ref m_told, .ref m_breaks, .ref m_row, .ref m_tried, .ref m_steps, .ref m_paths])), (m_told, .inl (y_told, 7, .inl ga_3)), (m_rules, .inl (y_rules, 8, .inl g_11)), (m_rule, .inl (y_rule, 8, .inl f_rule)), (m_stair, .inl (y_stair, 24, .inl f_stair))] H := hP
      have hD : va_D A [(h0, .inr (9, [.ref m_tape, .int 0, .int 0, .ref m_rule, .ref m_rules, .int 0, .ref m_stair, .int 0, .int 0, .int ((-1)), .int 5, .int 5, .ref m_low, .ref m_high, .ref m_crack, .int 0, .ref m_weight, .ref m_fire, .ref m_crowd, .ref m_state, .ref m_where, .int 0, .int 0, .int 0, .ref m_words, .int 0, .int 0, .int 0, .int 0, .int 0, .int 0, .ref m_told, .ref m_breaks, .ref m_row, .ref m_tried, .ref m_steps, .ref m_paths])), (m_told, .inl (y_told, 7, .inl ga_3)), (m_rules, .inl (y_rules, 8, .inl g_11)), (m_rule, .inl (y_rule, 8, .inl f_rule)), (m_stair, .inl (y_stair, 24, .inl f_stair))] := hD
      refine lv_iconst (v := 0) hx hb dX10_customs_131 (by decide) ?_
      refine lv_istore_n (lv' := [(2, .int 0), (0, .ref h0)]) hx hb dX10_customs_132 rfl hl (by decide) rfl (fun ls hl => ?_)
      refine lv_aload_n hx hb dX10_customs_133 rfl (lv_at hl 1 rfl) ?_
      refine mc_Vv (rest := []) (wr := [(m_told, .inl (y_told, 7, .inl ga_3)), (m_rules, .inl (y_rules, 8, .inl g_11)), (m_rule, .inl (y_rule, 8, .inl f_rule)), (m_stair, .inl (y_stair, 24, .inl f_stair))]) F hK hP hD hS hA (m_take0 l D h0 m_tape m_rule m_rules m_stair m_low m_high m_crack m_weight m_fire m_crowd m_state m_where m_words m_told m_breaks m_row m_tried m_steps m_paths 0 0 0 0 0 ((-1)) 5 5 0 0 0 0 0 0 0 0 ) ⟨gk_X10_120.1, gk_X10_120.2, Nat.le_of_ble_eq_true rfl, Nat.le_of_ble_eq_true rfl⟩ [0] [1, 2, 3, 4] [] ⟨rfl, rfl, rfl, rfl, by decide⟩ rfl xT_move (fun _ _ _ => trivial) 0 rfl rfl rfl hl.1 rfl (Nat.le_of_ble_eq_true rfl) dX10_customs_134 ⟨Nat.le_of_ble_eq_true rfl, Nat.le_of_ble_eq_true rfl⟩ (fun _ H locs hw hK1 hP hD hS => ?_)
      have hP : va_P D vwCl [(m_told, .inl (y_told, 7, .inl ga_3)), (m_rules, .inl (y_rules, 8, .inl g_11)), (m_rule, .inl (y_rule, 8, .inl f_rule)), (m_stair, .inl (y_stair, 24, .inl f_stair)), (h0, .inr (9, [.ref m_tape, .int 0, .int 0, .ref m_rule, .ref m_rules, .int 0, .ref m_stair, .int 0, .int 0, .int (((-1))), .int 5, .int 5, .ref m_low, .ref m_high, .ref m_crack, .int 0, .ref m_weight, .ref m_fire, .ref m_crowd, .ref m_state, .ref m_where, .int 0, .int 0, .int 0, .ref m_words, .int 0, .int 0, .int 0, .int 0, .int 0, .int 0, .ref m_told, .ref m_breaks, .ref m_row, .ref m_tried, .ref m_steps, .ref m_paths]))] H := hP
      have hD : va_D A [(m_told, .inl (y_told, 7, .inl ga_3)), (m_rules, .inl (y_rules, 8, .inl g_11)), (m_rule, .inl (y_rule, 8, .inl f_rule)), (m_stair, .inl (y_stair, 24, .inl f_stair)), (h0, .inr (9, [.ref m_tape, .int 0, .int 0, .ref m_rule, .ref m_rules, .int 0, .ref m_stair, .int 0, .int 0, .int (((-1))), .int 5, .int 5, .ref m_low, .ref m_high, .ref m_crack, .int 0, .ref m_weight, .ref m_fire, .ref m_crowd, .ref m_state, .ref m_where, .int 0, .int 0, .int 0, .ref m_words, .int 0, .int 0, .int 0, .int 0, .int 0, .int 0, .ref m_told, .ref m_breaks, .ref m_row, .ref m_tried, .ref m_steps, .ref m_paths]))] := hD
      refine lv_aload_n hx hb dX10_customs_137 rfl (lv_at hl 1 rfl) ?_
      refine va_get (D := D) (ci := 9) (v := .int 0) (C := RX10) (T := TX10) (N := 37) hx hb hts inG_X10 hown hK hP 4 rfl rfl 27 (by decide) (hts _ kw_4_222) (fun _ h9 => h9) rfl dX10_customs_138 ?_
      refine lv_if_eq (tgt := 183) hx hb dX10_customs_141 (by decide) (fun c_14 => ?_) (fun c_14 => absurd c_14 (by decide))
      refine lv_iconst (v := 0) hx hb dX10_customs_183 (by decide) ?_
      refine lv_istore_n (lv' := [(3, .int 0), (2, .int 0), (0, .ref h0)]) hx hb dX10_customs_184 rfl hl (by decide) rfl (fun ls hl => ?_)
      refine lp_m_cu2 F hA h0 m_tape m_rule m_rules m_stair m_low m_high m_crack m_weight m_fire m_crowd m_state m_where m_words m_told m_breaks m_row m_tried m_steps m_paths y_told y_rules y_rule y_stair ga_3 g_11 f_stair (hK.sub [0, 1, 2, 3] rfl) (fun gc_15  H locs hP hD hS ls hl => ?_) _ f_rule 0 (by omega) (Nat.lt_succ_self _) _ _ (hP.sub [4, 0, 1, 2, 3] rfl) (hD.sub [4, 0, 1, 2, 3] (by decide) rfl) hS ls (lv_sub hl [2, 1, 0] rfl)
      refine lv_aload_n hx hb dX10_customs_209 rfl (lv_at hl 0 rfl) ?_
      refine lv_aload_n hx hb dX10_customs_210 rfl (lv_at hl 0 rfl) ?_
      refine va_get (D := D) (ci := 9) (v := .int 0) (C := RX10) (T := TX10) (N := 37) hx hb hts inG_X10 hown hK hP 0 rfl rfl 7 (by decide) (hts _ kw_4_202) (fun _ h9 => h9) rfl dX10_customs_211 ?_
      refine va_put (D := D) (ci := 9) (v := .int 0) (ty := .int) (C := RX10) (T := TX10) (N := 37) hx hb hts inG_X10 tyX10 tyX10_ok nmX10 hown hK hP hD hS 0 rfl rfl 5 (by decide) (hts _ kw_4_200) (fun _ h9 => h9) rfl (by decide +kernel) rfl rfl (Nat.le_of_ble_eq_true rfl) dX10_customs_214 (fun H locs hP hD hS => ?_)
      have hP : va_P D vwCl [(h0, .inr (9, [.ref m_tape, .int 0, .int 0, .ref m_rule, .ref m_rules, .int 0, .ref m_stair, .int 0, .int 0, .int ((-1)), .int 5, .int 5, .ref m_low, .ref m_high, .ref m_crack, .int 0, .ref m_weight, .ref m_fire, .ref m_crowd, .ref m_state, .ref m_where, .int 0, .int 0, .int 0, .ref m_words, .int 0, .int 0, .int 0, .int 0, .int 0, .int 0, .ref m_told, .ref m_breaks, .ref m_row, .ref m_tried, .ref m_steps, .ref m_paths])), (m_told, .inl (y_told, 7, .inl ga_3)), (m_rules, .inl (y_rules, 8, .inl g_11)), (m_rule, .inl (y_rule, 8, .inl gc_15)), (m_stair, .inl (y_stair, 24, .inl f_stair))] H := hP
      have hD : va_D A [(h0, .inr (9, [.ref m_tape, .int 0, .int 0, .ref m_rule, .ref m_rules, .int 0, .ref m_stair, .int 0, .int 0, .int ((-1)), .int 5, .int 5, .ref m_low, .ref m_high, .ref m_crack, .int 0, .ref m_weight, .ref m_fire, .ref m_crowd, .ref m_state, .ref m_where, .int 0, .int 0, .int 0, .ref m_words, .int 0, .int 0, .int 0, .int 0, .int 0, .int 0, .ref m_told, .ref m_breaks, .ref m_row, .ref m_tried, .ref m_steps, .ref m_paths])), (m_told, .inl (y_told, 7, .inl ga_3)), (m_rules, .inl (y_rules, 8, .inl g_11)), (m_rule, .inl (y_rule, 8, .inl gc_15)), (m_stair, .inl (y_stair, 24, .inl f_stair))] := hD
      refine lv_iconst (v := 0) hx hb dX10_customs_217 (by decide) ?_
      refine lv_istore_n (lv' := [(3, .int 0), (0, .ref h0), (2, .int 0)]) hx hb dX10_customs_218 rfl hl (by decide) rfl (fun ls hl => ?_)
      refine lp_m_cu3 F hA h0 m_tape m_rule m_rules m_stair m_low m_high m_crack m_weight m_fire m_crowd m_state m_where m_words m_told m_breaks m_row m_tried m_steps m_paths y_told y_rules y_rule y_stair ga_3 g_11 gc_15 (hK.sub [0, 1, 2, 3] rfl) (fun gd_16  H locs hP hD hS ls hl => ?_) _ f_stair 0 (by omega) (Nat.lt_succ_self _) _ _ (hP.sub [0, 1, 2, 3, 4] rfl) (hD.sub [0, 1, 2, 3, 4] (by decide) rfl) hS ls (lv_sub hl [1, 2, 0] rfl)
      refine lv_iload_n hx hb dX10_customs_246 rfl (lv_at hl 0 rfl) ?_
      have hP9 := hP.sub (ws' := []) [] rfl
      have hD9 := hD.sub (ws' := []) [] (by decide) rfl
      have hK9 := hK.sub (tys' := []) [] rfl
      refine W.widen (k := 0) (n := 0) (by decide) (by decide) ?_
      exact W.iret (v := 0) hx hb hr (fun t ht hW => ⟨⟨0, (), rfl, rfl, by rw [ht]; exact hP9, va_K.moved hW.alike hK9, hD9⟩, hS.F ht⟩) hS.2.2 dX10_customs_247
    · skip
      have c_2 := Int32.not_le.mp c_2
      refine lv_bipush (v := -2) hx hb dX10_customs_17 (by decide) ?_
      have hP9 := hP.sub (ws' := []) [] rfl
      have hD9 := hD.sub (ws' := []) [] (by decide) rfl
      have hK9 := hK.sub (tys' := []) [] rfl
      refine W.widen (k := 0) (n := 0) (by decide) (by decide) ?_
      exact W.iret (v := (-2)) hx hb hr (fun t ht hW => ⟨⟨((-2)), (), rfl, by rw [if_neg (fun h => by rw [h] at c_2; exact absurd c_2 (by decide))], by rw [ht]; exact hP9, va_K.moved hW.alike hK9, hD9⟩, hS.F ht⟩) hS.2.2 dX10_customs_19
theorem dX10_fault_0 : decode cX10_fault 0 = .ok (.aload_n 0, 1) := by decide +kernel
theorem dX10_fault_1 : decode cX10_fault 1 = .ok (.iconst 0, 1) := by decide +kernel
theorem dX10_fault_2 : decode cX10_fault 2 = .ok (.putfield 78, 3) := by decide +kernel
theorem dX10_fault_5 : decode cX10_fault 5 = .ok (.iload_n 1, 1) := by decide +kernel
theorem dX10_fault_6 : decode cX10_fault 6 = .ok (.ifCond .ne 10, 3) := by decide +kernel
theorem dX10_fault_16 : decode cX10_fault 16 = .ok (.iload_n 1, 1) := by decide +kernel
theorem dX10_fault_17 : decode cX10_fault 17 = .ok (.iconst 1, 1) := by decide +kernel
theorem dX10_fault_18 : decode cX10_fault 18 = .ok (.if_icmp .ne 10, 3) := by decide +kernel
theorem dX10_fault_28 : decode cX10_fault 28 = .ok (.iconst (-1), 1) := by decide +kernel
theorem dX10_fault_29 : decode cX10_fault 29 = .ok (.ireturn, 1) := by decide +kernel
theorem dX10_fault_21 : decode cX10_fault 21 = .ok (.aload_n 0, 1) := by decide +kernel
theorem dX10_fault_22 : decode cX10_fault 22 = .ok (.getfield 22, 3) := by decide +kernel
theorem dX10_fault_25 : decode cX10_fault 25 = .ok (.goto 4, 3) := by decide +kernel
theorem dX10_fault_9 : decode cX10_fault 9 = .ok (.aload_n 0, 1) := by decide +kernel
theorem dX10_fault_10 : decode cX10_fault 10 = .ok (.getfield 84, 3) := by decide +kernel
theorem dX10_fault_13 : decode cX10_fault 13 = .ok (.goto 16, 3) := by decide +kernel
set_option maxHeartbeats 4000000 in
set_option maxRecDepth 100000 in
theorem m_fault (l : Launch) (D : va_G) (h0 : Nat) (m_tape : Nat) (m_rule : Nat) (m_rules : Nat) (m_stair : Nat) (m_low : Nat) (m_high : Nat) (m_crack : Nat) (m_weight : Nat) (m_fire : Nat) (m_crowd : Nat) (m_state : Nat) (m_where : Nat) (m_words : Nat) (m_told : Nat) (m_breaks : Nat) (m_row : Nat) (m_tried : Nat) (m_steps : Nat) (m_paths : Nat) (w : Int32) : cI l yX10_fault (.code yX10_fault cX10_fault 2 (some .int)) ({ frames := 0, cells := 0, slots := 0, locals := 0 }) D [] [(h0, .inr (9, [.ref m_tape, .int 0, .int 0, .ref m_rule, .ref m_rules, .int 0, .ref m_stair, .int 0, .int 0, .int ((-1)), .int 5, .int 5, .ref m_low, .ref m_high, .ref m_crack, .int 0, .ref m_weight, .ref m_fire, .ref m_crowd, .ref m_state, .ref m_where, .int 0, .int 0, .int 0, .ref m_words, .int 0, .int 0, .int 0, .int 0, .int 0, .int 0, .ref m_told, .ref m_breaks, .ref m_row, .ref m_tried, .ref m_steps, .ref m_paths]))] xT [.ref h0, .int w] (S := Unit) (fun r _ => r = (if w = 0 then 0 else (-1))) (fun _ => []) (fun _ => []) := by
  intro sz
  refine Met.ofW (cc := cX10_fault) (maxL := 2) (ret := (some .int)) (by decide) rfl ?_
  intro p e s m args below meth c s₁ B hml hv
  obtain ⟨rfl, hsz, hP, hK, hD0, hX⟩ := hv
  have hx := B.exec
  have hb := B.bytes
  have hr := B.returns
  have hts0 := atoms_spec (ws := .code yX10_fault cX10_fault 2 (some .int) :: gw) B.pre
  have hts := fun (w : Cond) (h : w ∈ gw) => hts0 w (List.mem_cons_of_mem _ h)
  have hown : s.vm.findClass RX10 = some m.cls := findClass_of_methodNamed B.named
  have hlocks := B.notSynchronized
  have F : mFix p s m _ c cX10_fault 2 RX10 := ⟨hx, hb, hml, hown, hts⟩
  subst hsz
  have hD := hD0.self (sz := s.heap.size)
  generalize hAe : va_A [(h0, .inr (9, [.ref m_tape, .int 0, .int 0, .ref m_rule, .ref m_rules, .int 0, .ref m_stair, .int 0, .int 0, .int ((-1)), .int 5, .int 5, .ref m_low, .ref m_high, .ref m_crack, .int 0, .ref m_weight, .ref m_fire, .ref m_crowd, .ref m_state, .ref m_where, .int 0, .int 0, .int 0, .ref m_words, .int 0, .int 0, .int 0, .int 0, .int 0, .int 0, .ref m_told, .ref m_breaks, .ref m_row, .ref m_tried, .ref m_steps, .ref m_paths]))] s.heap.size = A at hD hX ⊢
  have hA : ∀ q : Nat, s.heap.size ≤ q → A q := fun q h => by rw [← hAe]; exact Or.inr h
  have hS : va_S A s.heap s.heap [] := va_S.rf
  have hl := lv_entry ([.ref h0, .int w]) (n := 2) (Nat.le_of_ble_eq_true rfl)
  rw [lg_entry_eq]
  generalize (lg_sl ([.ref h0, .int w]) ++ List.replicate (2 - (lg_sl ([.ref h0, .int w])).length) Slot.unset).toArray = ls at hl ⊢
  have hl : lv_has ls 2 [(0, .ref h0), (1, .int w)] := hl
  have hP : va_P D vwCl [(h0, .inr (9, [.ref m_tape, .int 0, .int 0, .ref m_rule, .ref m_rules, .int 0, .ref m_stair, .int 0, .int 0, .int ((-1)), .int 5, .int 5, .ref m_low, .ref m_high, .ref m_crack, .int 0, .ref m_weight, .ref m_fire, .ref m_crowd, .ref m_state, .ref m_where, .int 0, .int 0, .int 0, .ref m_words, .int 0, .int 0, .int 0, .int 0, .int 0, .int 0, .ref m_told, .ref m_breaks, .ref m_row, .ref m_tried, .ref m_steps, .ref m_paths]))] s.heap := hP
  refine lv_aload_n hx hb dX10_fault_0 rfl (lv_at hl 0 rfl) ?_
  refine lv_iconst (v := 0) hx hb dX10_fault_1 (by decide) ?_
  refine va_put (D := D) (ci := 9) (v := .int 0) (ty := .int) (C := RX10) (T := TX10) (N := 37) hx hb hts inG_X10 tyX10 tyX10_ok nmX10 hown hK hP hD hS 0 rfl rfl 2 (by decide) (hts _ kw_4_197) (fun _ h9 => h9) rfl (by decide +kernel) rfl rfl (Nat.le_of_ble_eq_true rfl) dX10_fault_2 (fun H locs hP hD hS => ?_)
  have hP : va_P D vwCl [(h0, .inr (9, [.ref m_tape, .int 0, .int 0, .ref m_rule, .ref m_rules, .int 0, .ref m_stair, .int 0, .int 0, .int ((-1)), .int 5, .int 5, .ref m_low, .ref m_high, .ref m_crack, .int 0, .ref m_weight, .ref m_fire, .ref m_crowd, .ref m_state, .ref m_where, .int 0, .int 0, .int 0, .ref m_words, .int 0, .int 0, .int 0, .int 0, .int 0, .int 0, .ref m_told, .ref m_breaks, .ref m_row, .ref m_tried, .ref m_steps, .ref m_paths]))] H := hP
  have hD : va_D A [(h0, .inr (9, [.ref m_tape, .int 0, .int 0, .ref m_rule, .ref m_rules, .int 0, .ref m_stair, .int 0, .int 0, .int ((-1)), .int 5, .int 5, .ref m_low, .ref m_high, .ref m_crack, .int 0, .ref m_weight, .ref m_fire, .ref m_crowd, .ref m_state, .ref m_where, .int 0, .int 0, .int 0, .ref m_words, .int 0, .int 0, .int 0, .int 0, .int 0, .int 0, .ref m_told, .ref m_breaks, .ref m_row, .ref m_tried, .ref m_steps, .ref m_paths]))] := hD
  refine lv_iload_n hx hb dX10_fault_5 rfl (lv_at hl 1 rfl) ?_
  refine lv_if_ne (tgt := 16) hx hb dX10_fault_6 (by decide) (fun c_1 => ?_) (fun c_1 => ?_)
  · skip
    refine lv_iload_n hx hb dX10_fault_16 rfl (lv_at hl 1 rfl) ?_
    refine lv_iconst (v := 1) hx hb dX10_fault_17 (by decide) ?_
    refine lv_icmp_ne (tgt := 28) hx hb dX10_fault_18 (by decide) (fun c_2 => ?_) (fun c_2 => ?_)
    · skip
      refine lv_iconst (v := -1) hx hb dX10_fault_28 (by decide) ?_
      have hP9 := hP.sub (ws' := []) [] rfl
      have hD9 := hD.sub (ws' := []) [] (by decide) rfl
      have hK9 := hK.sub (tys' := []) [] rfl
      refine W.widen (k := 0) (n := 0) (by decide) (by decide) ?_
      exact W.iret (v := (-1)) hx hb hr (fun t ht hW => ⟨⟨((-1)), (), rfl, by rw [if_neg c_1], by rw [ht]; exact hP9, va_K.moved hW.alike hK9, hD9⟩, hS.F ht⟩) hS.2.2 dX10_fault_29
    · skip
      refine lv_aload_n hx hb dX10_fault_21 rfl (lv_at hl 0 rfl) ?_
      refine va_get (D := D) (ci := 9) (v := .int ((-1))) (C := RX10) (T := TX10) (N := 37) hx hb hts inG_X10 hown hK hP 0 rfl rfl 9 (by decide) (hts _ kw_4_204) (fun _ h9 => h9) rfl dX10_fault_22 ?_
      refine lv_goto (tgt := 29) hx hb dX10_fault_25 (by decide) ?_
      have hP9 := hP.sub (ws' := []) [] rfl
      have hD9 := hD.sub (ws' := []) [] (by decide) rfl
      have hK9 := hK.sub (tys' := []) [] rfl
      refine W.widen (k := 0) (n := 0) (by decide) (by decide) ?_
      exact W.iret (v := (-1)) hx hb hr (fun t ht hW => ⟨⟨((-1)), (), rfl, by rw [if_neg c_1], by rw [ht]; exact hP9, va_K.moved hW.alike hK9, hD9⟩, hS.F ht⟩) hS.2.2 dX10_fault_29
  · skip
    refine lv_aload_n hx hb dX10_fault_9 rfl (lv_at hl 0 rfl) ?_
    refine va_get (D := D) (ci := 9) (v := .int 0) (C := RX10) (T := TX10) (N := 37) hx hb hts inG_X10 hown hK hP 0 rfl rfl 8 (by decide) (hts _ kw_4_203) (fun _ h9 => h9) rfl dX10_fault_10 ?_
    refine lv_goto (tgt := 29) hx hb dX10_fault_13 (by decide) ?_
    have hP9 := hP.sub (ws' := []) [] rfl
    have hD9 := hD.sub (ws' := []) [] (by decide) rfl
    have hK9 := hK.sub (tys' := []) [] rfl
    refine W.widen (k := 0) (n := 0) (by decide) (by decide) ?_
    exact W.iret (v := 0) hx hb hr (fun t ht hW => ⟨⟨0, (), rfl, by rw [c_1]; rfl, by rw [ht]; exact hP9, va_K.moved hW.alike hK9, hD9⟩, hS.F ht⟩) hS.2.2 dX10_fault_29
theorem dX10_ice_41 : decode cX10_ice 41 = .ok (.iload_n 3, 1) := by decide +kernel
theorem dX10_ice_42 : decode cX10_ice 42 = .ok (.bipush 100, 2) := by decide +kernel
theorem dX10_ice_44 : decode cX10_ice 44 = .ok (.if_icmp .ge 30, 3) := by decide +kernel
theorem dX10_ice_47 : decode cX10_ice 47 = .ok (.aload_n 0, 1) := by decide +kernel
theorem dX10_ice_48 : decode cX10_ice 48 = .ok (.getfield 32, 3) := by decide +kernel
theorem dX10_ice_51 : decode cX10_ice 51 = .ok (.iload_n 3, 1) := by decide +kernel
theorem dX10_ice_52 : decode cX10_ice 52 = .ok (.iconst 0, 1) := by decide +kernel
theorem dX10_ice_53 : decode cX10_ice 53 = .ok (.iastore, 1) := by decide +kernel
theorem dX10_ice_54 : decode cX10_ice 54 = .ok (.aload_n 0, 1) := by decide +kernel
theorem dX10_ice_55 : decode cX10_ice 55 = .ok (.getfield 35, 3) := by decide +kernel
theorem dX10_ice_58 : decode cX10_ice 58 = .ok (.iload_n 3, 1) := by decide +kernel
theorem dX10_ice_59 : decode cX10_ice 59 = .ok (.iconst 0, 1) := by decide +kernel
theorem dX10_ice_60 : decode cX10_ice 60 = .ok (.iastore, 1) := by decide +kernel
theorem dX10_ice_61 : decode cX10_ice 61 = .ok (.aload_n 0, 1) := by decide +kernel
theorem dX10_ice_62 : decode cX10_ice 62 = .ok (.getfield 38, 3) := by decide +kernel
theorem dX10_ice_65 : decode cX10_ice 65 = .ok (.iload_n 3, 1) := by decide +kernel
theorem dX10_ice_66 : decode cX10_ice 66 = .ok (.iconst 0, 1) := by decide +kernel
theorem dX10_ice_67 : decode cX10_ice 67 = .ok (.bastore, 1) := by decide +kernel
theorem dX10_ice_68 : decode cX10_ice 68 = .ok (.iinc 3 1, 3) := by decide +kernel
theorem dX10_ice_71 : decode cX10_ice 71 = .ok (.goto (-30), 3) := by decide +kernel
set_option maxHeartbeats 4000000 in
set_option maxRecDepth 100000 in
theorem lp_m_ice {p : Program} {l : Launch} {e : Env} {s : State} {m : MethodId} {args : Array Value} {below : List Frame} {meth : Method} {c : Code} {Q : State → Prop} {A : Nat → Prop} {D : va_G} (F : mFix p s m args c cX10_ice 4 RX10) (hA : ∀ q, s.heap.size ≤ q → A q) (h0 : Nat) (m_tape : Nat) (m_rule : Nat) (m_rules : Nat) (m_stair : Nat) (m_low : Nat) (m_high : Nat) (m_crack : Nat) (m_weight : Nat) (m_fire : Nat) (m_crowd : Nat) (m_state : Nat) (m_where : Nat) (m_words : Nat) (m_told : Nat) (m_breaks : Nat) (m_row : Nat) (m_tried : Nat) (m_steps : Nat) (m_paths : Nat) (y_low : ClassId) (y_high : ClassId) (y_crack : ClassId) (w1 : Int32) (h1 : Int32) (hK : va_K D vwCl [(y_low, .int), (y_high, .int), (y_crack, .boolean)] s)
    (kx_74 : ∀ (ga : Nat → Int32) (gb : Nat → Int32) (gc : Nat → Int32), ∀ (H : Heap) (locs : List Loc), va_P D vwCl [(h0, .inr (9, [.ref m_tape, .int 0, .int 0, .ref m_rule, .ref m_rules, .int 0, .ref m_stair, .int 0, .int 0, .int ((-1)), .int w1, .int h1, .ref m_low, .ref m_high, .ref m_crack, .int 0, .ref m_weight, .ref m_fire, .ref m_crowd, .ref m_state, .ref m_where, .int 0, .int 0, .int 0, .ref m_words, .int 0, .int 0, .int 0, .int 0, .int 0, .int 0, .ref m_told, .ref m_breaks, .ref m_row, .ref m_tried, .ref m_steps, .ref m_paths])), (m_low, .inl (y_low, 100, .inl ga)), (m_high, .inl (y_high, 100, .inl gb)), (m_crack, .inl (y_crack, 100, .inl gc))] H → va_D A [(h0, .inr (9, [.ref m_tape, .int 0, .int 0, .ref m_rule, .ref m_rules, .int 0, .ref m_stair, .int 0, .int 0, .int ((-1)), .int w1, .int h1, .ref m_low, .ref m_high, .ref m_crack, .int 0, .ref m_weight, .ref m_fire, .ref m_crowd, .ref m_state, .ref m_where, .int 0, .int 0, .int 0, .ref m_words, .int 0, .int 0, .int 0, .int 0, .int 0, .int 0, .ref m_told, .ref m_breaks, .ref m_row, .ref m_tried, .ref m_steps, .ref m_paths])), (m_low, .inl (y_low, 100, .inl ga)), (m_high, .inl (y_high, 100, .inl gb)), (m_crack, .inl (y_crack, 100, .inl gc))] → va_S A s.heap H locs → ∀ ls : Array Slot, lv_has ls 4 [(0, .ref h0)] → W p l e ({ frames := 0, cells := 0, slots := 0, locals := 0 }) s m args below meth c H locs 0 0 Q (F0 m 74 ls [])) :
    ∀ n : Nat, ∀ (ga : Nat → Int32) (gb : Nat → Int32) (gc : Nat → Int32) (i : Nat), (i ≤ 100) → (100 - i) < n → ∀ (H : Heap) (locs : List Loc), va_P D vwCl [(h0, .inr (9, [.ref m_tape, .int 0, .int 0, .ref m_rule, .ref m_rules, .int 0, .ref m_stair, .int 0, .int 0, .int ((-1)), .int w1, .int h1, .ref m_low, .ref m_high, .ref m_crack, .int 0, .ref m_weight, .ref m_fire, .ref m_crowd, .ref m_state, .ref m_where, .int 0, .int 0, .int 0, .ref m_words, .int 0, .int 0, .int 0, .int 0, .int 0, .int 0, .ref m_told, .ref m_breaks, .ref m_row, .ref m_tried, .ref m_steps, .ref m_paths])), (m_low, .inl (y_low, 100, .inl ga)), (m_high, .inl (y_high, 100, .inl gb)), (m_crack, .inl (y_crack, 100, .inl gc))] H → va_D A [(h0, .inr (9, [.ref m_tape, .int 0, .int 0, .ref m_rule, .ref m_rules, .int 0, .ref m_stair, .int 0, .int 0, .int ((-1)), .int w1, .int h1, .ref m_low, .ref m_high, .ref m_crack, .int 0, .ref m_weight, .ref m_fire, .ref m_crowd, .ref m_state, .ref m_where, .int 0, .int 0, .int 0, .ref m_words, .int 0, .int 0, .int 0, .int 0, .int 0, .int 0, .ref m_told, .ref m_breaks, .ref m_row, .ref m_tried, .ref m_steps, .ref m_paths])), (m_low, .inl (y_low, 100, .inl ga)), (m_high, .inl (y_high, 100, .inl gb)), (m_crack, .inl (y_crack, 100, .inl gc))] → va_S A s.heap H locs → ∀ ls : Array Slot, lv_has ls 4 [(0, .ref h0), (3, .int (nI i))] → W p l e ({ frames := 0, cells := 0, slots := 0, locals := 0 }) s m args below meth c H locs 0 0 Q (F0 m 41 ls []) := by
  intro n
  induction n with
  | zero => intro ga gb gc i hi hn; exact absurd hn (Nat.not_lt_zero _)
  | succ n ih =>
    intro ga gb gc i hi hn H locs hP hD hS ls hl
    obtain ⟨hx, hb, hml, hown, hts⟩ := id F
    refine lv_iload_n hx hb dX10_ice_41 rfl (lv_at hl 1 rfl) ?_
    refine lv_bipush (v := 100) hx hb dX10_ice_42 (by decide) ?_
    refine lv_icmp_ge (tgt := 74) hx hb dX10_ice_44 (by decide) (fun c_1 => ?_) (fun c_1 => ?_)
    · skip
      have c_1n : 100 ≤ i := (nI_leI (by omega) (by omega)).mp c_1
      have c_1 := Int32.not_lt.mpr c_1
      exact kx_74 ga gb gc  H locs (hP.sub [0, 1, 2, 3] rfl) (hD.sub [0, 1, 2, 3] (by decide) rfl) hS ls (lv_sub hl [0] rfl)
    · skip
      have c_1n : i < 100 := nb_le (by omega) (by omega) c_1
      have c_1 := Int32.not_le.mp c_1
      refine lv_aload_n hx hb dX10_ice_47 rfl (lv_at hl 0 rfl) ?_
      refine va_get (D := D) (ci := 9) (v := .ref m_low) (C := RX10) (T := TX10) (N := 37) hx hb hts inG_X10 hown hK hP 0 rfl rfl 12 (by decide) (hts _ kw_4_207) (fun _ h9 => h9) rfl dX10_ice_48 ?_
      refine lv_iload_n hx hb dX10_ice_51 rfl (lv_at hl 1 rfl) ?_
      refine lv_iconst (v := 0) hx hb dX10_ice_52 (by decide) ?_
      refine m_iast hx hb hK hP hD hS 1 0 rfl rfl i rfl (by omega) (by decide) dX10_ice_53 (fun g_2 H locs eg_2 hP hD hS => ?_)
      have hP : va_P D vwCl [(h0, .inr (9, [.ref m_tape, .int 0, .int 0, .ref m_rule, .ref m_rules, .int 0, .ref m_stair, .int 0, .int 0, .int ((-1)), .int w1, .int h1, .ref m_low, .ref m_high, .ref m_crack, .int 0, .ref m_weight, .ref m_fire, .ref m_crowd, .ref m_state, .ref m_where, .int 0, .int 0, .int 0, .ref m_words, .int 0, .int 0, .int 0, .int 0, .int 0, .int 0, .ref m_told, .ref m_breaks, .ref m_row, .ref m_tried, .ref m_steps, .ref m_paths])), (m_low, .inl (y_low, 100, .inl g_2)), (m_high, .inl (y_high, 100, .inl gb)), (m_crack, .inl (y_crack, 100, .inl gc))] H := hP
      have hD : va_D A [(h0, .inr (9, [.ref m_tape, .int 0, .int 0, .ref m_rule, .ref m_rules, .int 0, .ref m_stair, .int 0, .int 0, .int ((-1)), .int w1, .int h1, .ref m_low, .ref m_high, .ref m_crack, .int 0, .ref m_weight, .ref m_fire, .ref m_crowd, .ref m_state, .ref m_where, .int 0, .int 0, .int 0, .ref m_words, .int 0, .int 0, .int 0, .int 0, .int 0, .int 0, .ref m_told, .ref m_breaks, .ref m_row, .ref m_tried, .ref m_steps, .ref m_paths])), (m_low, .inl (y_low, 100, .inl g_2)), (m_high, .inl (y_high, 100, .inl gb)), (m_crack, .inl (y_crack, 100, .inl gc))] := hD
      refine lv_aload_n hx hb dX10_ice_54 rfl (lv_at hl 0 rfl) ?_
      refine va_get (D := D) (ci := 9) (v := .ref m_high) (C := RX10) (T := TX10) (N := 37) hx hb hts inG_X10 hown hK hP 0 rfl rfl 13 (by decide) (hts _ kw_4_208) (fun _ h9 => h9) rfl dX10_ice_55 ?_
      refine lv_iload_n hx hb dX10_ice_58 rfl (lv_at hl 1 rfl) ?_
      refine lv_iconst (v := 0) hx hb dX10_ice_59 (by decide) ?_
      refine m_iast hx hb hK hP hD hS 2 1 rfl rfl i rfl (by omega) (by decide) dX10_ice_60 (fun g_3 H locs eg_3 hP hD hS => ?_)
      have hP : va_P D vwCl [(h0, .inr (9, [.ref m_tape, .int 0, .int 0, .ref m_rule, .ref m_rules, .int 0, .ref m_stair, .int 0, .int 0, .int ((-1)), .int w1, .int h1, .ref m_low, .ref m_high, .ref m_crack, .int 0, .ref m_weight, .ref m_fire, .ref m_crowd, .ref m_state, .ref m_where, .int 0, .int 0, .int 0, .ref m_words, .int 0, .int 0, .int 0, .int 0, .int 0, .int 0, .ref m_told, .ref m_breaks, .ref m_row, .ref m_tried, .ref m_steps, .ref m_paths])), (m_low, .inl (y_low, 100, .inl g_2)), (m_high, .inl (y_high, 100, .inl g_3)), (m_crack, .inl (y_crack, 100, .inl gc))] H := hP
      have hD : va_D A [(h0, .inr (9, [.ref m_tape, .int 0, .int 0, .ref m_rule, .ref m_rules, .int 0, .ref m_stair, .int 0, .int 0, .int ((-1)), .int w1, .int h1, .ref m_low, .ref m_high, .ref m_crack, .int 0, .ref m_weight, .ref m_fire, .ref m_crowd, .ref m_state, .ref m_where, .int 0, .int 0, .int 0, .ref m_words, .int 0, .int 0, .int 0, .int 0, .int 0, .int 0, .ref m_told, .ref m_breaks, .ref m_row, .ref m_tried, .ref m_steps, .ref m_paths])), (m_low, .inl (y_low, 100, .inl g_2)), (m_high, .inl (y_high, 100, .inl g_3)), (m_crack, .inl (y_crack, 100, .inl gc))] := hD
      refine lv_aload_n hx hb dX10_ice_61 rfl (lv_at hl 0 rfl) ?_
      refine va_get (D := D) (ci := 9) (v := .ref m_crack) (C := RX10) (T := TX10) (N := 37) hx hb hts inG_X10 hown hK hP 0 rfl rfl 14 (by decide) (hts _ kw_4_209) (fun _ h9 => h9) rfl dX10_ice_62 ?_
      refine lv_iload_n hx hb dX10_ice_65 rfl (lv_at hl 1 rfl) ?_
      refine lv_iconst (v := 0) hx hb dX10_ice_66 (by decide) ?_
      refine m_zast hx hb hK hP hD hS 3 2 rfl rfl i rfl (by omega) (by decide) dX10_ice_67 (fun g_4 H locs eg_4 hP hD hS => ?_)
      have hP : va_P D vwCl [(h0, .inr (9, [.ref m_tape, .int 0, .int 0, .ref m_rule, .ref m_rules, .int 0, .ref m_stair, .int 0, .int 0, .int ((-1)), .int w1, .int h1, .ref m_low, .ref m_high, .ref m_crack, .int 0, .ref m_weight, .ref m_fire, .ref m_crowd, .ref m_state, .ref m_where, .int 0, .int 0, .int 0, .ref m_words, .int 0, .int 0, .int 0, .int 0, .int 0, .int 0, .ref m_told, .ref m_breaks, .ref m_row, .ref m_tried, .ref m_steps, .ref m_paths])), (m_low, .inl (y_low, 100, .inl g_2)), (m_high, .inl (y_high, 100, .inl g_3)), (m_crack, .inl (y_crack, 100, .inl g_4))] H := hP
      have hD : va_D A [(h0, .inr (9, [.ref m_tape, .int 0, .int 0, .ref m_rule, .ref m_rules, .int 0, .ref m_stair, .int 0, .int 0, .int ((-1)), .int w1, .int h1, .ref m_low, .ref m_high, .ref m_crack, .int 0, .ref m_weight, .ref m_fire, .ref m_crowd, .ref m_state, .ref m_where, .int 0, .int 0, .int 0, .ref m_words, .int 0, .int 0, .int 0, .int 0, .int 0, .int 0, .ref m_told, .ref m_breaks, .ref m_row, .ref m_tried, .ref m_steps, .ref m_paths])), (m_low, .inl (y_low, 100, .inl g_2)), (m_high, .inl (y_high, 100, .inl g_3)), (m_crack, .inl (y_crack, 100, .inl g_4))] := hD
      refine lv_iinc (v := nI (i + 1)) (lv' := [(3, .int (nI (i + 1))), (0, .ref h0)]) hx hb dX10_ice_68 hl (k := 1) rfl (nI_add i 1) (by decide) rfl (fun ls hl => ?_)
      refine lv_goto (tgt := 41) hx hb dX10_ice_71 (by decide) ?_
      exact ih g_2 g_3 g_4 (i + 1) (by omega) (by omega) H locs (hP.sub [0, 1, 2, 3] rfl) (hD.sub [0, 1, 2, 3] (by decide) rfl) hS ls (lv_sub hl [1, 0] rfl)
theorem dX10_ice_0 : decode cX10_ice 0 = .ok (.aload_n 0, 1) := by decide +kernel
theorem dX10_ice_1 : decode cX10_ice 1 = .ok (.iconst 0, 1) := by decide +kernel
theorem dX10_ice_2 : decode cX10_ice 2 = .ok (.putfield 78, 3) := by decide +kernel
theorem dX10_ice_5 : decode cX10_ice 5 = .ok (.iload_n 1, 1) := by decide +kernel
theorem dX10_ice_6 : decode cX10_ice 6 = .ok (.iconst 3, 1) := by decide +kernel
theorem dX10_ice_7 : decode cX10_ice 7 = .ok (.if_icmp .lt 20, 3) := by decide +kernel
theorem dX10_ice_27 : decode cX10_ice 27 = .ok (.iconst 0, 1) := by decide +kernel
theorem dX10_ice_28 : decode cX10_ice 28 = .ok (.ireturn, 1) := by decide +kernel
theorem dX10_ice_10 : decode cX10_ice 10 = .ok (.iload_n 1, 1) := by decide +kernel
theorem dX10_ice_11 : decode cX10_ice 11 = .ok (.bipush 10, 2) := by decide +kernel
theorem dX10_ice_13 : decode cX10_ice 13 = .ok (.if_icmp .gt 14, 3) := by decide +kernel
theorem dX10_ice_16 : decode cX10_ice 16 = .ok (.iload_n 2, 1) := by decide +kernel
theorem dX10_ice_17 : decode cX10_ice 17 = .ok (.iconst 3, 1) := by decide +kernel
theorem dX10_ice_18 : decode cX10_ice 18 = .ok (.if_icmp .lt 9, 3) := by decide +kernel
theorem dX10_ice_21 : decode cX10_ice 21 = .ok (.iload_n 2, 1) := by decide +kernel
theorem dX10_ice_22 : decode cX10_ice 22 = .ok (.bipush 10, 2) := by decide +kernel
theorem dX10_ice_24 : decode cX10_ice 24 = .ok (.if_icmp .le 5, 3) := by decide +kernel
theorem dX10_ice_29 : decode cX10_ice 29 = .ok (.aload_n 0, 1) := by decide +kernel
theorem dX10_ice_30 : decode cX10_ice 30 = .ok (.iload_n 1, 1) := by decide +kernel
theorem dX10_ice_31 : decode cX10_ice 31 = .ok (.putfield 26, 3) := by decide +kernel
theorem dX10_ice_34 : decode cX10_ice 34 = .ok (.aload_n 0, 1) := by decide +kernel
theorem dX10_ice_35 : decode cX10_ice 35 = .ok (.iload_n 2, 1) := by decide +kernel
theorem dX10_ice_36 : decode cX10_ice 36 = .ok (.putfield 29, 3) := by decide +kernel
theorem dX10_ice_39 : decode cX10_ice 39 = .ok (.iconst 0, 1) := by decide +kernel
theorem dX10_ice_40 : decode cX10_ice 40 = .ok (.istore_n 3, 1) := by decide +kernel
theorem dX10_ice_74 : decode cX10_ice 74 = .ok (.aload_n 0, 1) := by decide +kernel
theorem dX10_ice_75 : decode cX10_ice 75 = .ok (.iconst 0, 1) := by decide +kernel
theorem dX10_ice_76 : decode cX10_ice 76 = .ok (.putfield 146, 3) := by decide +kernel
theorem dX10_ice_79 : decode cX10_ice 79 = .ok (.aload_n 0, 1) := by decide +kernel
theorem dX10_ice_80 : decode cX10_ice 80 = .ok (.iconst 0, 1) := by decide +kernel
theorem kw_4_216 : Cond.fieldLink RX10 149 "IceFairModel" "hours" "I" ∈ gw := gw_t4 (List.mem_of_getElem? (i := 216) (by decide +kernel)) (by decide +kernel)
theorem dX10_ice_81 : decode cX10_ice 81 = .ok (.putfield 149, 3) := by decide +kernel
theorem dX10_ice_84 : decode cX10_ice 84 = .ok (.aload_n 0, 1) := by decide +kernel
theorem dX10_ice_85 : decode cX10_ice 85 = .ok (.iconst 0, 1) := by decide +kernel
theorem kw_4_217 : Cond.fieldLink RX10 152 "IceFairModel" "fees" "I" ∈ gw := gw_t4 (List.mem_of_getElem? (i := 217) (by decide +kernel)) (by decide +kernel)
theorem dX10_ice_86 : decode cX10_ice 86 = .ok (.putfield 152, 3) := by decide +kernel
theorem dX10_ice_89 : decode cX10_ice 89 = .ok (.iconst 1, 1) := by decide +kernel
theorem dX10_ice_90 : decode cX10_ice 90 = .ok (.ireturn, 1) := by decide +kernel
set_option maxHeartbeats 4000000 in
set_option maxRecDepth 100000 in
theorem m_ice (l : Launch) (D : va_G) (h0 : Nat) (m_tape : Nat) (m_rule : Nat) (m_rules : Nat) (m_stair : Nat) (m_low : Nat) (m_high : Nat) (m_crack : Nat) (m_weight : Nat) (m_fire : Nat) (m_crowd : Nat) (m_state : Nat) (m_where : Nat) (m_words : Nat) (m_told : Nat) (m_breaks : Nat) (m_row : Nat) (m_tried : Nat) (m_steps : Nat) (m_paths : Nat) (y_low : ClassId) (y_high : ClassId) (y_crack : ClassId) (f_low : Nat → Int32) (f_high : Nat → Int32) (f_crack : Nat → Int32) (w1 : Int32) (h1 : Int32) : cI l yX10_ice (.code yX10_ice cX10_ice 4 (some .boolean)) ({ frames := 0, cells := 0, slots := 0, locals := 0 }) D [(y_low, .int), (y_high, .int), (y_crack, .boolean)] [(h0, .inr (9, [.ref m_tape, .int 0, .int 0, .ref m_rule, .ref m_rules, .int 0, .ref m_stair, .int 0, .int 0, .int ((-1)), .int 5, .int 5, .ref m_low, .ref m_high, .ref m_crack, .int 0, .ref m_weight, .ref m_fire, .ref m_crowd, .ref m_state, .ref m_where, .int 0, .int 0, .int 0, .ref m_words, .int 0, .int 0, .int 0, .int 0, .int 0, .int 0, .ref m_told, .ref m_breaks, .ref m_row, .ref m_tried, .ref m_steps, .ref m_paths])), (m_low, .inl (y_low, 100, .inl f_low)), (m_high, .inl (y_high, 100, .inl f_high)), (m_crack, .inl (y_crack, 100, .inl f_crack))] xT [.ref h0, .int w1, .int h1] (S := Unit) (fun r _ => r = (if w1 < 3 ∨ 10 < w1 ∨ h1 < 3 ∨ 10 < h1 then 0 else 1)) (fun _ => []) (fun _ => []) := by
  intro sz
  refine Met.ofW (cc := cX10_ice) (maxL := 4) (ret := (some .boolean)) (by decide) rfl ?_
  intro p e s m args below meth c s₁ B hml hv
  obtain ⟨rfl, hsz, hP, hK, hD0, hX⟩ := hv
  have hx := B.exec
  have hb := B.bytes
  have hr := B.returns
  have hts0 := atoms_spec (ws := .code yX10_ice cX10_ice 4 (some .boolean) :: gw) B.pre
  have hts := fun (w : Cond) (h : w ∈ gw) => hts0 w (List.mem_cons_of_mem _ h)
  have hown : s.vm.findClass RX10 = some m.cls := findClass_of_methodNamed B.named
  have hlocks := B.notSynchronized
  have F : mFix p s m _ c cX10_ice 4 RX10 := ⟨hx, hb, hml, hown, hts⟩
  subst hsz
  have hD := hD0.self (sz := s.heap.size)
  generalize hAe : va_A [(h0, .inr (9, [.ref m_tape, .int 0, .int 0, .ref m_rule, .ref m_rules, .int 0, .ref m_stair, .int 0, .int 0, .int ((-1)), .int 5, .int 5, .ref m_low, .ref m_high, .ref m_crack, .int 0, .ref m_weight, .ref m_fire, .ref m_crowd, .ref m_state, .ref m_where, .int 0, .int 0, .int 0, .ref m_words, .int 0, .int 0, .int 0, .int 0, .int 0, .int 0, .ref m_told, .ref m_breaks, .ref m_row, .ref m_tried, .ref m_steps, .ref m_paths])), (m_low, .inl (y_low, 100, .inl f_low)), (m_high, .inl (y_high, 100, .inl f_high)), (m_crack, .inl (y_crack, 100, .inl f_crack))] s.heap.size = A at hD hX ⊢
  have hA : ∀ q : Nat, s.heap.size ≤ q → A q := fun q h => by rw [← hAe]; exact Or.inr h
  have hS : va_S A s.heap s.heap [] := va_S.rf
  have hl := lv_entry ([.ref h0, .int w1, .int h1]) (n := 4) (Nat.le_of_ble_eq_true rfl)
  rw [lg_entry_eq]
  generalize (lg_sl ([.ref h0, .int w1, .int h1]) ++ List.replicate (4 - (lg_sl ([.ref h0, .int w1, .int h1])).length) Slot.unset).toArray = ls at hl ⊢
  have hl : lv_has ls 4 [(0, .ref h0), (1, .int w1), (2, .int h1)] := hl
  have hP : va_P D vwCl [(h0, .inr (9, [.ref m_tape, .int 0, .int 0, .ref m_rule, .ref m_rules, .int 0, .ref m_stair, .int 0, .int 0, .int ((-1)), .int 5, .int 5, .ref m_low, .ref m_high, .ref m_crack, .int 0, .ref m_weight, .ref m_fire, .ref m_crowd, .ref m_state, .ref m_where, .int 0, .int 0, .int 0, .ref m_words, .int 0, .int 0, .int 0, .int 0, .int 0, .int 0, .ref m_told, .ref m_breaks, .ref m_row, .ref m_tried, .ref m_steps, .ref m_paths])), (m_low, .inl (y_low, 100, .inl f_low)), (m_high, .inl (y_high, 100, .inl f_high)), (m_crack, .inl (y_crack, 100, .inl f_crack))] s.heap := hP
  refine lv_aload_n hx hb dX10_ice_0 rfl (lv_at hl 0 rfl) ?_
  refine lv_iconst (v := 0) hx hb dX10_ice_1 (by decide) ?_
  refine va_put (D := D) (ci := 9) (v := .int 0) (ty := .int) (C := RX10) (T := TX10) (N := 37) hx hb hts inG_X10 tyX10 tyX10_ok nmX10 hown hK hP hD hS 0 rfl rfl 2 (by decide) (hts _ kw_4_197) (fun _ h9 => h9) rfl (by decide +kernel) rfl rfl (Nat.le_of_ble_eq_true rfl) dX10_ice_2 (fun H locs hP hD hS => ?_)
  have hP : va_P D vwCl [(h0, .inr (9, [.ref m_tape, .int 0, .int 0, .ref m_rule, .ref m_rules, .int 0, .ref m_stair, .int 0, .int 0, .int ((-1)), .int 5, .int 5, .ref m_low, .ref m_high, .ref m_crack, .int 0, .ref m_weight, .ref m_fire, .ref m_crowd, .ref m_state, .ref m_where, .int 0, .int 0, .int 0, .ref m_words, .int 0, .int 0, .int 0, .int 0, .int 0, .int 0, .ref m_told, .ref m_breaks, .ref m_row, .ref m_tried, .ref m_steps, .ref m_paths])), (m_low, .inl (y_low, 100, .inl f_low)), (m_high, .inl (y_high, 100, .inl f_high)), (m_crack, .inl (y_crack, 100, .inl f_crack))] H := hP
  have hD : va_D A [(h0, .inr (9, [.ref m_tape, .int 0, .int 0, .ref m_rule, .ref m_rules, .int 0, .ref m_stair, .int 0, .int 0, .int ((-1)), .int 5, .int 5, .ref m_low, .ref m_high, .ref m_crack, .int 0, .ref m_weight, .ref m_fire, .ref m_crowd, .ref m_state, .ref m_where, .int 0, .int 0, .int 0, .ref m_words, .int 0, .int 0, .int 0, .int 0, .int 0, .int 0, .ref m_told, .ref m_breaks, .ref m_row, .ref m_tried, .ref m_steps, .ref m_paths])), (m_low, .inl (y_low, 100, .inl f_low)), (m_high, .inl (y_high, 100, .inl f_high)), (m_crack, .inl (y_crack, 100, .inl f_crack))] := hD
  refine lv_iload_n hx hb dX10_ice_5 rfl (lv_at hl 1 rfl) ?_
  refine lv_iconst (v := 3) hx hb dX10_ice_6 (by decide) ?_
  refine lv_icmp_lt (tgt := 27) hx hb dX10_ice_7 (by decide) (fun c_1 => ?_) (fun c_1 => ?_)
  · skip
    refine lv_iconst (v := 0) hx hb dX10_ice_27 (by decide) ?_
    have hP9 := hP.sub (ws' := []) [] rfl
    have hD9 := hD.sub (ws' := []) [] (by decide) rfl
    have hK9 := hK.sub (tys' := []) [] rfl
    refine W.widen (k := 0) (n := 0) (by decide) (by decide) ?_
    exact W.zret (v := 0) hx hb hr rfl (fun t ht hW => ⟨⟨0, (), rfl, by simp only [c_1, or_false, false_or, or_true, true_or, not_true_eq_false, not_false_eq_true, ↓reduceIte], by rw [ht]; exact hP9, va_K.moved hW.alike hK9, hD9⟩, hS.F ht⟩) hS.2.2 dX10_ice_28
  · skip
    refine lv_iload_n hx hb dX10_ice_10 rfl (lv_at hl 1 rfl) ?_
    refine lv_bipush (v := 10) hx hb dX10_ice_11 (by decide) ?_
    refine lv_icmp_gt (tgt := 27) hx hb dX10_ice_13 (by decide) (fun c_2 => ?_) (fun c_2 => ?_)
    · skip
      refine lv_iconst (v := 0) hx hb dX10_ice_27 (by decide) ?_
      have hP9 := hP.sub (ws' := []) [] rfl
      have hD9 := hD.sub (ws' := []) [] (by decide) rfl
      have hK9 := hK.sub (tys' := []) [] rfl
      refine W.widen (k := 0) (n := 0) (by decide) (by decide) ?_
      exact W.zret (v := 0) hx hb hr rfl (fun t ht hW => ⟨⟨0, (), rfl, by simp only [c_1, c_2, or_false, false_or, or_true, true_or, not_true_eq_false, not_false_eq_true, ↓reduceIte], by rw [ht]; exact hP9, va_K.moved hW.alike hK9, hD9⟩, hS.F ht⟩) hS.2.2 dX10_ice_28
    · skip
      refine lv_iload_n hx hb dX10_ice_16 rfl (lv_at hl 2 rfl) ?_
      refine lv_iconst (v := 3) hx hb dX10_ice_17 (by decide) ?_
      refine lv_icmp_lt (tgt := 27) hx hb dX10_ice_18 (by decide) (fun c_3 => ?_) (fun c_3 => ?_)
      · skip
        refine lv_iconst (v := 0) hx hb dX10_ice_27 (by decide) ?_
        have hP9 := hP.sub (ws' := []) [] rfl
        have hD9 := hD.sub (ws' := []) [] (by decide) rfl
        have hK9 := hK.sub (tys' := []) [] rfl
        refine W.widen (k := 0) (n := 0) (by decide) (by decide) ?_
        exact W.zret (v := 0) hx hb hr rfl (fun t ht hW => ⟨⟨0, (), rfl, by simp only [c_1, c_2, c_3, or_false, false_or, or_true, true_or, not_true_eq_false, not_false_eq_true, ↓reduceIte], by rw [ht]; exact hP9, va_K.moved hW.alike hK9, hD9⟩, hS.F ht⟩) hS.2.2 dX10_ice_28
      · skip
        refine lv_iload_n hx hb dX10_ice_21 rfl (lv_at hl 2 rfl) ?_
        refine lv_bipush (v := 10) hx hb dX10_ice_22 (by decide) ?_
        refine lv_icmp_le (tgt := 29) hx hb dX10_ice_24 (by decide) (fun c_4 => ?_) (fun c_4 => ?_)
        · skip
          have c_4 := Int32.not_lt.mpr c_4
          refine lv_aload_n hx hb dX10_ice_29 rfl (lv_at hl 0 rfl) ?_
          refine lv_iload_n hx hb dX10_ice_30 rfl (lv_at hl 1 rfl) ?_
          refine va_put (D := D) (ci := 9) (v := .int w1) (ty := .int) (C := RX10) (T := TX10) (N := 37) hx hb hts inG_X10 tyX10 tyX10_ok nmX10 hown hK hP hD hS 0 rfl rfl 10 (by decide) (hts _ kw_4_205) (fun _ h9 => h9) rfl (by decide +kernel) rfl rfl (Nat.le_of_ble_eq_true rfl) dX10_ice_31 (fun H locs hP hD hS => ?_)
          have hP : va_P D vwCl [(h0, .inr (9, [.ref m_tape, .int 0, .int 0, .ref m_rule, .ref m_rules, .int 0, .ref m_stair, .int 0, .int 0, .int ((-1)), .int w1, .int 5, .ref m_low, .ref m_high, .ref m_crack, .int 0, .ref m_weight, .ref m_fire, .ref m_crowd, .ref m_state, .ref m_where, .int 0, .int 0, .int 0, .ref m_words, .int 0, .int 0, .int 0, .int 0, .int 0, .int 0, .ref m_told, .ref m_breaks, .ref m_row, .ref m_tried, .ref m_steps, .ref m_paths])), (m_low, .inl (y_low, 100, .inl f_low)), (m_high, .inl (y_high, 100, .inl f_high)), (m_crack, .inl (y_crack, 100, .inl f_crack))] H := hP
          have hD : va_D A [(h0, .inr (9, [.ref m_tape, .int 0, .int 0, .ref m_rule, .ref m_rules, .int 0, .ref m_stair, .int 0, .int 0, .int ((-1)), .int w1, .int 5, .ref m_low, .ref m_high, .ref m_crack, .int 0, .ref m_weight, .ref m_fire, .ref m_crowd, .ref m_state, .ref m_where, .int 0, .int 0, .int 0, .ref m_words, .int 0, .int 0, .int 0, .int 0, .int 0, .int 0, .ref m_told, .ref m_breaks, .ref m_row, .ref m_tried, .ref m_steps, .ref m_paths])), (m_low, .inl (y_low, 100, .inl f_low)), (m_high, .inl (y_high, 100, .inl f_high)), (m_crack, .inl (y_crack, 100, .inl f_crack))] := hD
          refine lv_aload_n hx hb dX10_ice_34 rfl (lv_at hl 0 rfl) ?_
          refine lv_iload_n hx hb dX10_ice_35 rfl (lv_at hl 2 rfl) ?_
          refine va_put (D := D) (ci := 9) (v := .int h1) (ty := .int) (C := RX10) (T := TX10) (N := 37) hx hb hts inG_X10 tyX10 tyX10_ok nmX10 hown hK hP hD hS 0 rfl rfl 11 (by decide) (hts _ kw_4_206) (fun _ h9 => h9) rfl (by decide +kernel) rfl rfl (Nat.le_of_ble_eq_true rfl) dX10_ice_36 (fun H locs hP hD hS => ?_)
          have hP : va_P D vwCl [(h0, .inr (9, [.ref m_tape, .int 0, .int 0, .ref m_rule, .ref m_rules, .int 0, .ref m_stair, .int 0, .int 0, .int ((-1)), .int w1, .int h1, .ref m_low, .ref m_high, .ref m_crack, .int 0, .ref m_weight, .ref m_fire, .ref m_crowd, .ref m_state, .ref m_where, .int 0, .int 0, .int 0, .ref m_words, .int 0, .int 0, .int 0, .int 0, .int 0, .int 0, .ref m_told, .ref m_breaks, .ref m_row, .ref m_tried, .ref m_steps, .ref m_paths])), (m_low, .inl (y_low, 100, .inl f_low)), (m_high, .inl (y_high, 100, .inl f_high)), (m_crack, .inl (y_crack, 100, .inl f_crack))] H := hP
          have hD : va_D A [(h0, .inr (9, [.ref m_tape, .int 0, .int 0, .ref m_rule, .ref m_rules, .int 0, .ref m_stair, .int 0, .int 0, .int ((-1)), .int w1, .int h1, .ref m_low, .ref m_high, .ref m_crack, .int 0, .ref m_weight, .ref m_fire, .ref m_crowd, .ref m_state, .ref m_where, .int 0, .int 0, .int 0, .ref m_words, .int 0, .int 0, .int 0, .int 0, .int 0, .int 0, .ref m_told, .ref m_breaks, .ref m_row, .ref m_tried, .ref m_steps, .ref m_paths])), (m_low, .inl (y_low, 100, .inl f_low)), (m_high, .inl (y_high, 100, .inl f_high)), (m_crack, .inl (y_crack, 100, .inl f_crack))] := hD
          refine lv_iconst (v := 0) hx hb dX10_ice_39 (by decide) ?_
          refine lv_istore_n (lv' := [(3, .int 0), (0, .ref h0), (1, .int w1), (2, .int h1)]) hx hb dX10_ice_40 rfl hl (by decide) rfl (fun ls hl => ?_)
          refine lp_m_ice F hA h0 m_tape m_rule m_rules m_stair m_low m_high m_crack m_weight m_fire m_crowd m_state m_where m_words m_told m_breaks m_row m_tried m_steps m_paths y_low y_high y_crack w1 h1 (hK.sub [0, 1, 2] rfl) (fun ga_5 gb_6 gc_7  H locs hP hD hS ls hl => ?_) _ f_low f_high f_crack 0 (by omega) (Nat.lt_succ_self _) _ _ (hP.sub [0, 1, 2, 3] rfl) (hD.sub [0, 1, 2, 3] (by decide) rfl) hS ls (lv_sub hl [1, 0] rfl)
          refine lv_aload_n hx hb dX10_ice_74 rfl (lv_at hl 0 rfl) ?_
          refine lv_iconst (v := 0) hx hb dX10_ice_75 (by decide) ?_
          refine va_put (D := D) (ci := 9) (v := .int 0) (ty := .int) (C := RX10) (T := TX10) (N := 37) hx hb hts inG_X10 tyX10 tyX10_ok nmX10 hown hK hP hD hS 0 rfl rfl 15 (by decide) (hts _ kw_4_210) (fun _ h9 => h9) rfl (by decide +kernel) rfl rfl (Nat.le_of_ble_eq_true rfl) dX10_ice_76 (fun H locs hP hD hS => ?_)
          have hP : va_P D vwCl [(h0, .inr (9, [.ref m_tape, .int 0, .int 0, .ref m_rule, .ref m_rules, .int 0, .ref m_stair, .int 0, .int 0, .int ((-1)), .int w1, .int h1, .ref m_low, .ref m_high, .ref m_crack, .int 0, .ref m_weight, .ref m_fire, .ref m_crowd, .ref m_state, .ref m_where, .int 0, .int 0, .int 0, .ref m_words, .int 0, .int 0, .int 0, .int 0, .int 0, .int 0, .ref m_told, .ref m_breaks, .ref m_row, .ref m_tried, .ref m_steps, .ref m_paths])), (m_low, .inl (y_low, 100, .inl ga_5)), (m_high, .inl (y_high, 100, .inl gb_6)), (m_crack, .inl (y_crack, 100, .inl gc_7))] H := hP
          have hD : va_D A [(h0, .inr (9, [.ref m_tape, .int 0, .int 0, .ref m_rule, .ref m_rules, .int 0, .ref m_stair, .int 0, .int 0, .int ((-1)), .int w1, .int h1, .ref m_low, .ref m_high, .ref m_crack, .int 0, .ref m_weight, .ref m_fire, .ref m_crowd, .ref m_state, .ref m_where, .int 0, .int 0, .int 0, .ref m_words, .int 0, .int 0, .int 0, .int 0, .int 0, .int 0, .ref m_told, .ref m_breaks, .ref m_row, .ref m_tried, .ref m_steps, .ref m_paths])), (m_low, .inl (y_low, 100, .inl ga_5)), (m_high, .inl (y_high, 100, .inl gb_6)), (m_crack, .inl (y_crack, 100, .inl gc_7))] := hD
          refine lv_aload_n hx hb dX10_ice_79 rfl (lv_at hl 0 rfl) ?_
          refine lv_iconst (v := 0) hx hb dX10_ice_80 (by decide) ?_
          refine va_put (D := D) (ci := 9) (v := .int 0) (ty := .int) (C := RX10) (T := TX10) (N := 37) hx hb hts inG_X10 tyX10 tyX10_ok nmX10 hown hK hP hD hS 0 rfl rfl 21 (by decide) (hts _ kw_4_216) (fun _ h9 => h9) rfl (by decide +kernel) rfl rfl (Nat.le_of_ble_eq_true rfl) dX10_ice_81 (fun H locs hP hD hS => ?_)
          have hP : va_P D vwCl [(h0, .inr (9, [.ref m_tape, .int 0, .int 0, .ref m_rule, .ref m_rules, .int 0, .ref m_stair, .int 0, .int 0, .int ((-1)), .int w1, .int h1, .ref m_low, .ref m_high, .ref m_crack, .int 0, .ref m_weight, .ref m_fire, .ref m_crowd, .ref m_state, .ref m_where, .int 0, .int 0, .int 0, .ref m_words, .int 0, .int 0, .int 0, .int 0, .int 0, .int 0, .ref m_told, .ref m_breaks, .ref m_row, .ref m_tried, .ref m_steps, .ref m_paths])), (m_low, .inl (y_low, 100, .inl ga_5)), (m_high, .inl (y_high, 100, .inl gb_6)), (m_crack, .inl (y_crack, 100, .inl gc_7))] H := hP
          have hD : va_D A [(h0, .inr (9, [.ref m_tape, .int 0, .int 0, .ref m_rule, .ref m_rules, .int 0, .ref m_stair, .int 0, .int 0, .int ((-1)), .int w1, .int h1, .ref m_low, .ref m_high, .ref m_crack, .int 0, .ref m_weight, .ref m_fire, .ref m_crowd, .ref m_state, .ref m_where, .int 0, .int 0, .int 0, .ref m_words, .int 0, .int 0, .int 0, .int 0, .int 0, .int 0, .ref m_told, .ref m_breaks, .ref m_row, .ref m_tried, .ref m_steps, .ref m_paths])), (m_low, .inl (y_low, 100, .inl ga_5)), (m_high, .inl (y_high, 100, .inl gb_6)), (m_crack, .inl (y_crack, 100, .inl gc_7))] := hD
          refine lv_aload_n hx hb dX10_ice_84 rfl (lv_at hl 0 rfl) ?_
          refine lv_iconst (v := 0) hx hb dX10_ice_85 (by decide) ?_
          refine va_put (D := D) (ci := 9) (v := .int 0) (ty := .int) (C := RX10) (T := TX10) (N := 37) hx hb hts inG_X10 tyX10 tyX10_ok nmX10 hown hK hP hD hS 0 rfl rfl 22 (by decide) (hts _ kw_4_217) (fun _ h9 => h9) rfl (by decide +kernel) rfl rfl (Nat.le_of_ble_eq_true rfl) dX10_ice_86 (fun H locs hP hD hS => ?_)
          have hP : va_P D vwCl [(h0, .inr (9, [.ref m_tape, .int 0, .int 0, .ref m_rule, .ref m_rules, .int 0, .ref m_stair, .int 0, .int 0, .int ((-1)), .int w1, .int h1, .ref m_low, .ref m_high, .ref m_crack, .int 0, .ref m_weight, .ref m_fire, .ref m_crowd, .ref m_state, .ref m_where, .int 0, .int 0, .int 0, .ref m_words, .int 0, .int 0, .int 0, .int 0, .int 0, .int 0, .ref m_told, .ref m_breaks, .ref m_row, .ref m_tried, .ref m_steps, .ref m_paths])), (m_low, .inl (y_low, 100, .inl ga_5)), (m_high, .inl (y_high, 100, .inl gb_6)), (m_crack, .inl (y_crack, 100, .inl gc_7))] H := hP
          have hD : va_D A [(h0, .inr (9, [.ref m_tape, .int 0, .int 0, .ref m_rule, .ref m_rules, .int 0, .ref m_stair, .int 0, .int 0, .int ((-1)), .int w1, .int h1, .ref m_low, .ref m_high, .ref m_crack, .int 0, .ref m_weight, .ref m_fire, .ref m_crowd, .ref m_state, .ref m_where, .int 0, .int 0, .int 0, .ref m_words, .int 0, .int 0, .int 0, .int 0, .int 0, .int 0, .ref m_told, .ref m_breaks, .ref m_row, .ref m_tried, .ref m_steps, .ref m_paths])), (m_low, .inl (y_low, 100, .inl ga_5)), (m_high, .inl (y_high, 100, .inl gb_6)), (m_crack, .inl (y_crack, 100, .inl gc_7))] := hD
          refine lv_iconst (v := 1) hx hb dX10_ice_89 (by decide) ?_
          have hP9 := hP.sub (ws' := []) [] rfl
          have hD9 := hD.sub (ws' := []) [] (by decide) rfl
          have hK9 := hK.sub (tys' := []) [] rfl
          refine W.widen (k := 0) (n := 0) (by decide) (by decide) ?_
          exact W.zret (v := 1) hx hb hr rfl (fun t ht hW => ⟨⟨1, (), rfl, by simp only [c_1, c_2, c_3, c_4, or_false, false_or, or_true, true_or, not_true_eq_false, not_false_eq_true, ↓reduceIte], by rw [ht]; exact hP9, va_K.moved hW.alike hK9, hD9⟩, hS.F ht⟩) hS.2.2 dX10_ice_90
        · skip
          have c_4 := Int32.not_le.mp c_4
          refine lv_iconst (v := 0) hx hb dX10_ice_27 (by decide) ?_
          have hP9 := hP.sub (ws' := []) [] rfl
          have hD9 := hD.sub (ws' := []) [] (by decide) rfl
          have hK9 := hK.sub (tys' := []) [] rfl
          refine W.widen (k := 0) (n := 0) (by decide) (by decide) ?_
          exact W.zret (v := 0) hx hb hr rfl (fun t ht hW => ⟨⟨0, (), rfl, by simp only [c_1, c_2, c_3, c_4, or_false, false_or, or_true, true_or, not_true_eq_false, not_false_eq_true, ↓reduceIte], by rw [ht]; exact hP9, va_K.moved hW.alike hK9, hD9⟩, hS.F ht⟩) hS.2.2 dX10_ice_28
theorem dX10_sound_69 : decode cX10_sound 69 = .ok (.iload 8, 2) := by decide +kernel
theorem dX10_sound_71 : decode cX10_sound 71 = .ok (.iload_n 3, 1) := by decide +kernel
theorem dX10_sound_72 : decode cX10_sound 72 = .ok (.if_icmp .gt 39, 3) := by decide +kernel
theorem dX10_sound_75 : decode cX10_sound 75 = .ok (.aload_n 0, 1) := by decide +kernel
theorem dX10_sound_76 : decode cX10_sound 76 = .ok (.getfield 32, 3) := by decide +kernel
theorem dX10_sound_79 : decode cX10_sound 79 = .ok (.bipush 10, 2) := by decide +kernel
theorem dX10_sound_81 : decode cX10_sound 81 = .ok (.iload 7, 2) := by decide +kernel
theorem dX10_sound_83 : decode cX10_sound 83 = .ok (.imul, 1) := by decide +kernel
theorem dX10_sound_84 : decode cX10_sound 84 = .ok (.iload 8, 2) := by decide +kernel
theorem dX10_sound_86 : decode cX10_sound 86 = .ok (.iadd, 1) := by decide +kernel
theorem dX10_sound_87 : decode cX10_sound 87 = .ok (.iload 5, 2) := by decide +kernel
theorem dX10_sound_89 : decode cX10_sound 89 = .ok (.iastore, 1) := by decide +kernel
theorem dX10_sound_90 : decode cX10_sound 90 = .ok (.aload_n 0, 1) := by decide +kernel
theorem dX10_sound_91 : decode cX10_sound 91 = .ok (.getfield 35, 3) := by decide +kernel
theorem dX10_sound_94 : decode cX10_sound 94 = .ok (.bipush 10, 2) := by decide +kernel
theorem dX10_sound_96 : decode cX10_sound 96 = .ok (.iload 7, 2) := by decide +kernel
theorem dX10_sound_98 : decode cX10_sound 98 = .ok (.imul, 1) := by decide +kernel
theorem dX10_sound_99 : decode cX10_sound 99 = .ok (.iload 8, 2) := by decide +kernel
theorem dX10_sound_101 : decode cX10_sound 101 = .ok (.iadd, 1) := by decide +kernel
theorem dX10_sound_102 : decode cX10_sound 102 = .ok (.iload 6, 2) := by decide +kernel
theorem dX10_sound_104 : decode cX10_sound 104 = .ok (.iastore, 1) := by decide +kernel
theorem dX10_sound_105 : decode cX10_sound 105 = .ok (.iinc 8 1, 3) := by decide +kernel
theorem dX10_sound_108 : decode cX10_sound 108 = .ok (.goto (-39), 3) := by decide +kernel
set_option maxHeartbeats 4000000 in
set_option maxRecDepth 100000 in
theorem lp_m_sound_in {p : Program} {l : Launch} {e : Env} {s : State} {m : MethodId} {args : Array Value} {below : List Frame} {meth : Method} {c : Code} {Q : State → Prop} {A : Nat → Prop} {D : va_G} (F : mFix p s m args c cX10_sound 9 RX10) (hA : ∀ q, s.heap.size ≤ q → A q) (h0 : Nat) (m_tape : Nat) (m_rule : Nat) (m_rules : Nat) (m_stair : Nat) (m_low : Nat) (m_high : Nat) (m_crack : Nat) (m_weight : Nat) (m_fire : Nat) (m_crowd : Nat) (m_state : Nat) (m_where : Nat) (m_words : Nat) (m_told : Nat) (m_breaks : Nat) (m_row : Nat) (m_tried : Nat) (m_steps : Nat) (m_paths : Nat) (y_low : ClassId) (y_high : ClassId) (i0 : Nat) (i1 : Nat) (j1 : Nat) (lo : Int32) (hi : Int32) (j : Nat) (hK : va_K D vwCl [(y_low, .int), (y_high, .int)] s)
    (kx_111 : ∀ (g1 : Nat → Int32) (g2 : Nat → Int32), ∀ (H : Heap) (locs : List Loc), va_P D vwCl [(h0, .inr (9, [.ref m_tape, .int 0, .int 0, .ref m_rule, .ref m_rules, .int 0, .ref m_stair, .int 0, .int 0, .int ((-1)), .int 5, .int 5, .ref m_low, .ref m_high, .ref m_crack, .int 0, .ref m_weight, .ref m_fire, .ref m_crowd, .ref m_state, .ref m_where, .int 0, .int 0, .int 0, .ref m_words, .int 0, .int 0, .int 0, .int 0, .int 0, .int 0, .ref m_told, .ref m_breaks, .ref m_row, .ref m_tried, .ref m_steps, .ref m_paths])), (m_low, .inl (y_low, 100, .inl g1)), (m_high, .inl (y_high, 100, .inl g2))] H → va_D A [(h0, .inr (9, [.ref m_tape, .int 0, .int 0, .ref m_rule, .ref m_rules, .int 0, .ref m_stair, .int 0, .int 0, .int ((-1)), .int 5, .int 5, .ref m_low, .ref m_high, .ref m_crack, .int 0, .ref m_weight, .ref m_fire, .ref m_crowd, .ref m_state, .ref m_where, .int 0, .int 0, .int 0, .ref m_words, .int 0, .int 0, .int 0, .int 0, .int 0, .int 0, .ref m_told, .ref m_breaks, .ref m_row, .ref m_tried, .ref m_steps, .ref m_paths])), (m_low, .inl (y_low, 100, .inl g1)), (m_high, .inl (y_high, 100, .inl g2))] → va_S A s.heap H locs → ∀ ls : Array Slot, lv_has ls 9 [(0, .ref h0), (1, .int (nI i0)), (3, .int (nI i1)), (4, .int (nI j1)), (5, .int lo), (6, .int hi), (7, .int (nI j))] → W p l e ({ frames := 1, cells := 0, slots := 0, locals := 22 }) s m args below meth c H locs 0 0 Q (F0 m 111 ls [])) :
    ∀ n : Nat, ∀ (g1 : Nat → Int32) (g2 : Nat → Int32) (i : Nat), (i ≤ 5) → (i1 < 5) → (j < 5) → (j1 < 5) → (5 - i) < n → ∀ (H : Heap) (locs : List Loc), va_P D vwCl [(h0, .inr (9, [.ref m_tape, .int 0, .int 0, .ref m_rule, .ref m_rules, .int 0, .ref m_stair, .int 0, .int 0, .int ((-1)), .int 5, .int 5, .ref m_low, .ref m_high, .ref m_crack, .int 0, .ref m_weight, .ref m_fire, .ref m_crowd, .ref m_state, .ref m_where, .int 0, .int 0, .int 0, .ref m_words, .int 0, .int 0, .int 0, .int 0, .int 0, .int 0, .ref m_told, .ref m_breaks, .ref m_row, .ref m_tried, .ref m_steps, .ref m_paths])), (m_low, .inl (y_low, 100, .inl g1)), (m_high, .inl (y_high, 100, .inl g2))] H → va_D A [(h0, .inr (9, [.ref m_tape, .int 0, .int 0, .ref m_rule, .ref m_rules, .int 0, .ref m_stair, .int 0, .int 0, .int ((-1)), .int 5, .int 5, .ref m_low, .ref m_high, .ref m_crack, .int 0, .ref m_weight, .ref m_fire, .ref m_crowd, .ref m_state, .ref m_where, .int 0, .int 0, .int 0, .ref m_words, .int 0, .int 0, .int 0, .int 0, .int 0, .int 0, .ref m_told, .ref m_breaks, .ref m_row, .ref m_tried, .ref m_steps, .ref m_paths])), (m_low, .inl (y_low, 100, .inl g1)), (m_high, .inl (y_high, 100, .inl g2))] → va_S A s.heap H locs → ∀ ls : Array Slot, lv_has ls 9 [(0, .ref h0), (3, .int (nI i1)), (4, .int (nI j1)), (5, .int lo), (6, .int hi), (7, .int (nI j)), (8, .int (nI i)), (1, .int (nI i0))] → W p l e ({ frames := 1, cells := 0, slots := 0, locals := 22 }) s m args below meth c H locs 0 0 Q (F0 m 69 ls []) := by
  intro n
  induction n with
  | zero => intro g1 g2 i b1 b2 b3 b4 hn; exact absurd hn (Nat.not_lt_zero _)
  | succ n ih =>
    intro g1 g2 i b1 b2 b3 b4 hn H locs hP hD hS ls hl
    obtain ⟨hx, hb, hml, hown, hts⟩ := id F
    refine lv_iload hx hb dX10_sound_69 (lv_at hl 6 rfl) ?_
    refine lv_iload_n hx hb dX10_sound_71 rfl (lv_at hl 1 rfl) ?_
    refine lv_icmp_gt (tgt := 111) hx hb dX10_sound_72 (by decide) (fun c_1 => ?_) (fun c_1 => ?_)
    · skip
      have c_1n : i1 < i := (nI_ltI (by omega) (by omega)).mp c_1
      exact kx_111 g1 g2  H locs (hP.sub [0, 1, 2] rfl) (hD.sub [0, 1, 2] (by decide) rfl) hS ls (lv_sub hl [0, 7, 1, 2, 3, 4, 5] rfl)
    · skip
      have c_1n : i ≤ i1 := nb_lt (by omega) (by omega) c_1
      refine lv_aload_n hx hb dX10_sound_75 rfl (lv_at hl 0 rfl) ?_
      refine va_get (D := D) (ci := 9) (v := .ref m_low) (C := RX10) (T := TX10) (N := 37) hx hb hts inG_X10 hown hK hP 0 rfl rfl 12 (by decide) (hts _ kw_4_207) (fun _ h9 => h9) rfl dX10_sound_76 ?_
      refine lv_bipush (v := 10) hx hb dX10_sound_79 (by decide) ?_
      refine lv_iload hx hb dX10_sound_81 (lv_at hl 5 rfl) ?_
      refine lv_imul hx hb dX10_sound_83 ?_
      refine lv_topi (fun z_2 ez_2 => ?_)
      obtain rfl : z_2 = nI (10 * j) := ez_2.trans (pk_mul 10 j)
      refine lv_iload hx hb dX10_sound_84 (lv_at hl 6 rfl) ?_
      refine lv_iadd hx hb dX10_sound_86 ?_
      refine lv_topi (fun z_3 ez_3 => ?_)
      obtain rfl : z_3 = nI (10 * j + i) := ez_3.trans (nI_add (10 * j) i)
      refine lv_iload hx hb dX10_sound_87 (lv_at hl 3 rfl) ?_
      refine m_iast hx hb hK hP hD hS 1 0 rfl rfl (10 * j + i) rfl (by omega) (by decide) dX10_sound_89 (fun g_4 H locs eg_4 hP hD hS => ?_)
      have hP : va_P D vwCl [(h0, .inr (9, [.ref m_tape, .int 0, .int 0, .ref m_rule, .ref m_rules, .int 0, .ref m_stair, .int 0, .int 0, .int ((-1)), .int 5, .int 5, .ref m_low, .ref m_high, .ref m_crack, .int 0, .ref m_weight, .ref m_fire, .ref m_crowd, .ref m_state, .ref m_where, .int 0, .int 0, .int 0, .ref m_words, .int 0, .int 0, .int 0, .int 0, .int 0, .int 0, .ref m_told, .ref m_breaks, .ref m_row, .ref m_tried, .ref m_steps, .ref m_paths])), (m_low, .inl (y_low, 100, .inl g_4)), (m_high, .inl (y_high, 100, .inl g2))] H := hP
      have hD : va_D A [(h0, .inr (9, [.ref m_tape, .int 0, .int 0, .ref m_rule, .ref m_rules, .int 0, .ref m_stair, .int 0, .int 0, .int ((-1)), .int 5, .int 5, .ref m_low, .ref m_high, .ref m_crack, .int 0, .ref m_weight, .ref m_fire, .ref m_crowd, .ref m_state, .ref m_where, .int 0, .int 0, .int 0, .ref m_words, .int 0, .int 0, .int 0, .int 0, .int 0, .int 0, .ref m_told, .ref m_breaks, .ref m_row, .ref m_tried, .ref m_steps, .ref m_paths])), (m_low, .inl (y_low, 100, .inl g_4)), (m_high, .inl (y_high, 100, .inl g2))] := hD
      refine lv_aload_n hx hb dX10_sound_90 rfl (lv_at hl 0 rfl) ?_
      refine va_get (D := D) (ci := 9) (v := .ref m_high) (C := RX10) (T := TX10) (N := 37) hx hb hts inG_X10 hown hK hP 0 rfl rfl 13 (by decide) (hts _ kw_4_208) (fun _ h9 => h9) rfl dX10_sound_91 ?_
      refine lv_bipush (v := 10) hx hb dX10_sound_94 (by decide) ?_
      refine lv_iload hx hb dX10_sound_96 (lv_at hl 5 rfl) ?_
      refine lv_imul hx hb dX10_sound_98 ?_
      refine lv_topi (fun z_5 ez_5 => ?_)
      obtain rfl : z_5 = nI (10 * j) := ez_5.trans (pk_mul 10 j)
      refine lv_iload hx hb dX10_sound_99 (lv_at hl 6 rfl) ?_
      refine lv_iadd hx hb dX10_sound_101 ?_
      refine lv_topi (fun z_6 ez_6 => ?_)
      obtain rfl : z_6 = nI (10 * j + i) := ez_6.trans (nI_add (10 * j) i)
      refine lv_iload hx hb dX10_sound_102 (lv_at hl 4 rfl) ?_
      refine m_iast hx hb hK hP hD hS 2 1 rfl rfl (10 * j + i) rfl (by omega) (by decide) dX10_sound_104 (fun g_7 H locs eg_7 hP hD hS => ?_)
      have hP : va_P D vwCl [(h0, .inr (9, [.ref m_tape, .int 0, .int 0, .ref m_rule, .ref m_rules, .int 0, .ref m_stair, .int 0, .int 0, .int ((-1)), .int 5, .int 5, .ref m_low, .ref m_high, .ref m_crack, .int 0, .ref m_weight, .ref m_fire, .ref m_crowd, .ref m_state, .ref m_where, .int 0, .int 0, .int 0, .ref m_words, .int 0, .int 0, .int 0, .int 0, .int 0, .int 0, .ref m_told, .ref m_breaks, .ref m_row, .ref m_tried, .ref m_steps, .ref m_paths])), (m_low, .inl (y_low, 100, .inl g_4)), (m_high, .inl (y_high, 100, .inl g_7))] H := hP
      have hD : va_D A [(h0, .inr (9, [.ref m_tape, .int 0, .int 0, .ref m_rule, .ref m_rules, .int 0, .ref m_stair, .int 0, .int 0, .int ((-1)), .int 5, .int 5, .ref m_low, .ref m_high, .ref m_crack, .int 0, .ref m_weight, .ref m_fire, .ref m_crowd, .ref m_state, .ref m_where, .int 0, .int 0, .int 0, .ref m_words, .int 0, .int 0, .int 0, .int 0, .int 0, .int 0, .ref m_told, .ref m_breaks, .ref m_row, .ref m_tried, .ref m_steps, .ref m_paths])), (m_low, .inl (y_low, 100, .inl g_4)), (m_high, .inl (y_high, 100, .inl g_7))] := hD
      refine lv_iinc (v := nI (i + 1)) (lv' := [(8, .int (nI (i + 1))), (0, .ref h0), (3, .int (nI i1)), (4, .int (nI j1)), (5, .int lo), (6, .int hi), (7, .int (nI j)), (1, .int (nI i0))]) hx hb dX10_sound_105 hl (k := 6) rfl (nI_add i 1) (by decide) rfl (fun ls hl => ?_)
      refine lv_goto (tgt := 69) hx hb dX10_sound_108 (by decide) ?_
      exact ih g_4 g_7 (i + 1) (by omega) (by omega) (by omega) (by omega) (by omega) H locs (hP.sub [0, 1, 2] rfl) (hD.sub [0, 1, 2] (by decide) rfl) hS ls (lv_sub hl [1, 2, 3, 4, 5, 6, 0, 7] rfl)
theorem dX10_sound_59 : decode cX10_sound 59 = .ok (.iload 7, 2) := by decide +kernel
theorem dX10_sound_61 : decode cX10_sound 61 = .ok (.iload 4, 2) := by decide +kernel
theorem dX10_sound_63 : decode cX10_sound 63 = .ok (.if_icmp .gt 54, 3) := by decide +kernel
theorem dX10_sound_66 : decode cX10_sound 66 = .ok (.iload_n 1, 1) := by decide +kernel
theorem dX10_sound_67 : decode cX10_sound 67 = .ok (.istore 8, 2) := by decide +kernel
theorem dX10_sound_111 : decode cX10_sound 111 = .ok (.iinc 7 1, 3) := by decide +kernel
theorem dX10_sound_114 : decode cX10_sound 114 = .ok (.goto (-55), 3) := by decide +kernel
set_option maxHeartbeats 4000000 in
set_option maxRecDepth 100000 in
theorem lp_m_sound_out {p : Program} {l : Launch} {e : Env} {s : State} {m : MethodId} {args : Array Value} {below : List Frame} {meth : Method} {c : Code} {Q : State → Prop} {A : Nat → Prop} {D : va_G} (F : mFix p s m args c cX10_sound 9 RX10) (hA : ∀ q, s.heap.size ≤ q → A q) (h0 : Nat) (m_tape : Nat) (m_rule : Nat) (m_rules : Nat) (m_stair : Nat) (m_low : Nat) (m_high : Nat) (m_crack : Nat) (m_weight : Nat) (m_fire : Nat) (m_crowd : Nat) (m_state : Nat) (m_where : Nat) (m_words : Nat) (m_told : Nat) (m_breaks : Nat) (m_row : Nat) (m_tried : Nat) (m_steps : Nat) (m_paths : Nat) (y_low : ClassId) (y_high : ClassId) (i0 : Nat) (i1 : Nat) (j1 : Nat) (lo : Int32) (hi : Int32) (hK : va_K D vwCl [(y_low, .int), (y_high, .int)] s)
    (kx_117 : ∀ (g1 : Nat → Int32) (g2 : Nat → Int32), ∀ (H : Heap) (locs : List Loc), va_P D vwCl [(h0, .inr (9, [.ref m_tape, .int 0, .int 0, .ref m_rule, .ref m_rules, .int 0, .ref m_stair, .int 0, .int 0, .int ((-1)), .int 5, .int 5, .ref m_low, .ref m_high, .ref m_crack, .int 0, .ref m_weight, .ref m_fire, .ref m_crowd, .ref m_state, .ref m_where, .int 0, .int 0, .int 0, .ref m_words, .int 0, .int 0, .int 0, .int 0, .int 0, .int 0, .ref m_told, .ref m_breaks, .ref m_row, .ref m_tried, .ref m_steps, .ref m_paths])), (m_low, .inl (y_low, 100, .inl g1)), (m_high, .inl (y_high, 100, .inl g2))] H → va_D A [(h0, .inr (9, [.ref m_tape, .int 0, .int 0, .ref m_rule, .ref m_rules, .int 0, .ref m_stair, .int 0, .int 0, .int ((-1)), .int 5, .int 5, .ref m_low, .ref m_high, .ref m_crack, .int 0, .ref m_weight, .ref m_fire, .ref m_crowd, .ref m_state, .ref m_where, .int 0, .int 0, .int 0, .ref m_words, .int 0, .int 0, .int 0, .int 0, .int 0, .int 0, .ref m_told, .ref m_breaks, .ref m_row, .ref m_tried, .ref m_steps, .ref m_paths])), (m_low, .inl (y_low, 100, .inl g1)), (m_high, .inl (y_high, 100, .inl g2))] → va_S A s.heap H locs → ∀ ls : Array Slot, lv_has ls 9 [] → W p l e ({ frames := 1, cells := 0, slots := 0, locals := 22 }) s m args below meth c H locs 0 0 Q (F0 m 117 ls [])) :
    ∀ n : Nat, ∀ (g1 : Nat → Int32) (g2 : Nat → Int32) (j : Nat), (j ≤ 5) → (i1 < 5) → (i0 < 5) → (j1 < 5) → (5 - j) < n → ∀ (H : Heap) (locs : List Loc), va_P D vwCl [(h0, .inr (9, [.ref m_tape, .int 0, .int 0, .ref m_rule, .ref m_rules, .int 0, .ref m_stair, .int 0, .int 0, .int ((-1)), .int 5, .int 5, .ref m_low, .ref m_high, .ref m_crack, .int 0, .ref m_weight, .ref m_fire, .ref m_crowd, .ref m_state, .ref m_where, .int 0, .int 0, .int 0, .ref m_words, .int 0, .int 0, .int 0, .int 0, .int 0, .int 0, .ref m_told, .ref m_breaks, .ref m_row, .ref m_tried, .ref m_steps, .ref m_paths])), (m_low, .inl (y_low, 100, .inl g1)), (m_high, .inl (y_high, 100, .inl g2))] H → va_D A [(h0, .inr (9, [.ref m_tape, .int 0, .int 0, .ref m_rule, .ref m_rules, .int 0, .ref m_stair, .int 0, .int 0, .int ((-1)), .int 5, .int 5, .ref m_low, .ref m_high, .ref m_crack, .int 0, .ref m_weight, .ref m_fire, .ref m_crowd, .ref m_state, .ref m_where, .int 0, .int 0, .int 0, .ref m_words, .int 0, .int 0, .int 0, .int 0, .int 0, .int 0, .ref m_told, .ref m_breaks, .ref m_row, .ref m_tried, .ref m_steps, .ref m_paths])), (m_low, .inl (y_low, 100, .inl g1)), (m_high, .inl (y_high, 100, .inl g2))] → va_S A s.heap H locs → ∀ ls : Array Slot, lv_has ls 9 [(0, .ref h0), (1, .int (nI i0)), (3, .int (nI i1)), (4, .int (nI j1)), (5, .int lo), (6, .int hi), (7, .int (nI j))] → W p l e ({ frames := 1, cells := 0, slots := 0, locals := 22 }) s m args below meth c H locs 0 0 Q (F0 m 59 ls []) := by
  intro n
  induction n with
  | zero => intro g1 g2 j b1 b2 b3 b4 hn; exact absurd hn (Nat.not_lt_zero _)
  | succ n ih =>
    intro g1 g2 j b1 b2 b3 b4 hn H locs hP hD hS ls hl
    obtain ⟨hx, hb, hml, hown, hts⟩ := id F
    refine lv_iload hx hb dX10_sound_59 (lv_at hl 6 rfl) ?_
    refine lv_iload hx hb dX10_sound_61 (lv_at hl 3 rfl) ?_
    refine lv_icmp_gt (tgt := 117) hx hb dX10_sound_63 (by decide) (fun c_1 => ?_) (fun c_1 => ?_)
    · skip
      have c_1n : j1 < j := (nI_ltI (by omega) (by omega)).mp c_1
      exact kx_117 g1 g2  H locs (hP.sub [0, 1, 2] rfl) (hD.sub [0, 1, 2] (by decide) rfl) hS ls (lv_sub hl [] rfl)
    · skip
      have c_1n : j ≤ j1 := nb_lt (by omega) (by omega) c_1
      refine lv_iload_n hx hb dX10_sound_66 rfl (lv_at hl 1 rfl) ?_
      refine lv_istore (lv' := [(8, .int (nI i0)), (0, .ref h0), (1, .int (nI i0)), (3, .int (nI i1)), (4, .int (nI j1)), (5, .int lo), (6, .int hi), (7, .int (nI j))]) hx hb dX10_sound_67 hl (by decide) rfl (fun ls hl => ?_)
      refine lp_m_sound_in F hA h0 m_tape m_rule m_rules m_stair m_low m_high m_crack m_weight m_fire m_crowd m_state m_where m_words m_told m_breaks m_row m_tried m_steps m_paths y_low y_high i0 i1 j1 lo hi j (hK.sub [0, 1] rfl) (fun g1_2 g2_3  H locs hP hD hS ls hl => ?_) _ g1 g2 i0 (by omega) (by omega) (by omega) (by omega) (Nat.lt_succ_self _) _ _ (hP.sub [0, 1, 2] rfl) (hD.sub [0, 1, 2] (by decide) rfl) hS ls (lv_sub hl [1, 3, 4, 5, 6, 7, 0, 2] rfl)
      refine lv_iinc (v := nI (j + 1)) (lv' := [(7, .int (nI (j + 1))), (0, .ref h0), (1, .int (nI i0)), (3, .int (nI i1)), (4, .int (nI j1)), (5, .int lo), (6, .int hi)]) hx hb dX10_sound_111 hl (k := 6) rfl (nI_add j 1) (by decide) rfl (fun ls hl => ?_)
      refine lv_goto (tgt := 59) hx hb dX10_sound_114 (by decide) ?_
      exact ih g1_2 g2_3 (j + 1) (by omega) (by omega) (by omega) (by omega) (by omega) H locs (hP.sub [0, 1, 2] rfl) (hD.sub [0, 1, 2] (by decide) rfl) hS ls (lv_sub hl [1, 2, 3, 4, 5, 6, 0] rfl)
theorem dX10_sound_0 : decode cX10_sound 0 = .ok (.aload_n 0, 1) := by decide +kernel
theorem dX10_sound_1 : decode cX10_sound 1 = .ok (.iconst 0, 1) := by decide +kernel
theorem dX10_sound_2 : decode cX10_sound 2 = .ok (.putfield 78, 3) := by decide +kernel
theorem dX10_sound_5 : decode cX10_sound 5 = .ok (.aload_n 0, 1) := by decide +kernel
theorem dX10_sound_6 : decode cX10_sound 6 = .ok (.iload_n 1, 1) := by decide +kernel
theorem dX10_sound_7 : decode cX10_sound 7 = .ok (.iload_n 2, 1) := by decide +kernel
theorem kw_5_131 : Cond.methodLink RX10 155 yX10_isCell ∈ gw := gw_t5 (List.mem_of_getElem? (i := 131) (by decide +kernel)) (by decide +kernel)
theorem kw_5_133 : Cond.instanceMethod yX10_isCell ∈ gw := gw_t5 (List.mem_of_getElem? (i := 133) (by decide +kernel)) (by decide +kernel)
theorem ks_3_11 : Cond.selects RX10 yX10_isCell yX10_isCell ∈ gw := gw_s (y := yX10_isCell) (n := 37) (List.mem_append_right _ (List.mem_append_right _ (List.mem_append_left _ (List.mem_of_getElem? (i := 11) (by decide +kernel)))))
theorem kw_5_134 : Cond.code yX10_isCell cX10_isCell 3 (some .boolean) ∈ gw := gw_t5 (List.mem_of_getElem? (i := 134) (by decide +kernel)) (by decide +kernel)
theorem gk_X10_155 : GoodIn gw (wsV RX10 155 RX10 yX10_isCell (.code yX10_isCell cX10_isCell 3 (some .boolean) :: gw)) ∧ (yX10_isCell.cls = RX10 ∧ yX10_isCell.cls ≠ "java/lang/invoke/MethodHandle" ∧ yX10_isCell.cls ≠ "java/lang/invoke/VarHandle" ∧ (parseMethodDescriptor yX10_isCell.desc).map (fun d => d.parameters.length) = some 2) := ⟨gi_V kw_5_131 kw_5_133 ks_3_11 kw_1_11 kw_5_134, by decide +kernel⟩
theorem dX10_sound_8 : decode cX10_sound 8 = .ok (.invokevirtual 155, 3) := by decide +kernel
theorem dX10_sound_11 : decode cX10_sound 11 = .ok (.ifCond .eq 43, 3) := by decide +kernel
theorem dX10_sound_54 : decode cX10_sound 54 = .ok (.iconst 0, 1) := by decide +kernel
theorem dX10_sound_55 : decode cX10_sound 55 = .ok (.ireturn, 1) := by decide +kernel
theorem dX10_sound_14 : decode cX10_sound 14 = .ok (.aload_n 0, 1) := by decide +kernel
theorem dX10_sound_15 : decode cX10_sound 15 = .ok (.iload_n 3, 1) := by decide +kernel
theorem dX10_sound_16 : decode cX10_sound 16 = .ok (.iload 4, 2) := by decide +kernel
theorem dX10_sound_18 : decode cX10_sound 18 = .ok (.invokevirtual 155, 3) := by decide +kernel
theorem dX10_sound_21 : decode cX10_sound 21 = .ok (.ifCond .eq 33, 3) := by decide +kernel
theorem dX10_sound_24 : decode cX10_sound 24 = .ok (.iload_n 1, 1) := by decide +kernel
theorem dX10_sound_25 : decode cX10_sound 25 = .ok (.iload_n 3, 1) := by decide +kernel
theorem dX10_sound_26 : decode cX10_sound 26 = .ok (.if_icmp .gt 28, 3) := by decide +kernel
theorem dX10_sound_29 : decode cX10_sound 29 = .ok (.iload_n 2, 1) := by decide +kernel
theorem dX10_sound_30 : decode cX10_sound 30 = .ok (.iload 4, 2) := by decide +kernel
theorem dX10_sound_32 : decode cX10_sound 32 = .ok (.if_icmp .gt 22, 3) := by decide +kernel
theorem dX10_sound_35 : decode cX10_sound 35 = .ok (.iload 5, 2) := by decide +kernel
theorem dX10_sound_37 : decode cX10_sound 37 = .ok (.ifCond .lt 17, 3) := by decide +kernel
theorem dX10_sound_40 : decode cX10_sound 40 = .ok (.iload 5, 2) := by decide +kernel
theorem dX10_sound_42 : decode cX10_sound 42 = .ok (.iload 6, 2) := by decide +kernel
theorem dX10_sound_44 : decode cX10_sound 44 = .ok (.if_icmp .gt 10, 3) := by decide +kernel
theorem dX10_sound_47 : decode cX10_sound 47 = .ok (.iload 6, 2) := by decide +kernel
theorem dX10_sound_49 : decode cX10_sound 49 = .ok (.bipush 99, 2) := by decide +kernel
theorem dX10_sound_51 : decode cX10_sound 51 = .ok (.if_icmp .le 5, 3) := by decide +kernel
theorem dX10_sound_56 : decode cX10_sound 56 = .ok (.iload_n 2, 1) := by decide +kernel
theorem dX10_sound_57 : decode cX10_sound 57 = .ok (.istore 7, 2) := by decide +kernel
theorem dX10_sound_117 : decode cX10_sound 117 = .ok (.iconst 1, 1) := by decide +kernel
theorem dX10_sound_118 : decode cX10_sound 118 = .ok (.ireturn, 1) := by decide +kernel
set_option maxHeartbeats 4000000 in
set_option maxRecDepth 100000 in
theorem m_sound (l : Launch) (D : va_G) (h0 : Nat) (m_tape : Nat) (m_rule : Nat) (m_rules : Nat) (m_stair : Nat) (m_low : Nat) (m_high : Nat) (m_crack : Nat) (m_weight : Nat) (m_fire : Nat) (m_crowd : Nat) (m_state : Nat) (m_where : Nat) (m_words : Nat) (m_told : Nat) (m_breaks : Nat) (m_row : Nat) (m_tried : Nat) (m_steps : Nat) (m_paths : Nat) (y_low : ClassId) (y_high : ClassId) (f_low : Nat → Int32) (f_high : Nat → Int32) (x0 : Int32) (y0 : Int32) (x1 : Int32) (y1 : Int32) (lo : Int32) (hi : Int32) : cI l yX10_sound (.code yX10_sound cX10_sound 9 (some .boolean)) ({ frames := 1, cells := 0, slots := 0, locals := 22 }) D [(y_low, .int), (y_high, .int)] [(h0, .inr (9, [.ref m_tape, .int 0, .int 0, .ref m_rule, .ref m_rules, .int 0, .ref m_stair, .int 0, .int 0, .int ((-1)), .int 5, .int 5, .ref m_low, .ref m_high, .ref m_crack, .int 0, .ref m_weight, .ref m_fire, .ref m_crowd, .ref m_state, .ref m_where, .int 0, .int 0, .int 0, .ref m_words, .int 0, .int 0, .int 0, .int 0, .int 0, .int 0, .ref m_told, .ref m_breaks, .ref m_row, .ref m_tried, .ref m_steps, .ref m_paths])), (m_low, .inl (y_low, 100, .inl f_low)), (m_high, .inl (y_high, 100, .inl f_high))] xT [.ref h0, .int x0, .int y0, .int x1, .int y1, .int lo, .int hi] (S := Unit) (fun r _ => r = (if (x0 < 0 ∨ ¬ x0 < nI 5 ∨ y0 < 0 ∨ ¬ y0 < nI 5) ∨ (x1 < 0 ∨ ¬ x1 < nI 5 ∨ y1 < 0 ∨ ¬ y1 < nI 5) ∨ x1 < x0 ∨ y1 < y0 ∨ lo < 0 ∨ hi < lo ∨ 99 < hi then 0 else 1)) (fun _ => []) (fun _ => []) := by
  intro sz
  refine Met.ofW (cc := cX10_sound) (maxL := 9) (ret := (some .boolean)) (by decide) rfl ?_
  intro p e s m args below meth c s₁ B hml hv
  obtain ⟨rfl, hsz, hP, hK, hD0, hX⟩ := hv
  have hx := B.exec
  have hb := B.bytes
  have hr := B.returns
  have hts0 := atoms_spec (ws := .code yX10_sound cX10_sound 9 (some .boolean) :: gw) B.pre
  have hts := fun (w : Cond) (h : w ∈ gw) => hts0 w (List.mem_cons_of_mem _ h)
  have hown : s.vm.findClass RX10 = some m.cls := findClass_of_methodNamed B.named
  have hlocks := B.notSynchronized
  have F : mFix p s m _ c cX10_sound 9 RX10 := ⟨hx, hb, hml, hown, hts⟩
  subst hsz
  have hD := hD0.self (sz := s.heap.size)
  generalize hAe : va_A [(h0, .inr (9, [.ref m_tape, .int 0, .int 0, .ref m_rule, .ref m_rules, .int 0, .ref m_stair, .int 0, .int 0, .int ((-1)), .int 5, .int 5, .ref m_low, .ref m_high, .ref m_crack, .int 0, .ref m_weight, .ref m_fire, .ref m_crowd, .ref m_state, .ref m_where, .int 0, .int 0, .int 0, .ref m_words, .int 0, .int 0, .int 0, .int 0, .int 0, .int 0, .ref m_told, .ref m_breaks, .ref m_row, .ref m_tried, .ref m_steps, .ref m_paths])), (m_low, .inl (y_low, 100, .inl f_low)), (m_high, .inl (y_high, 100, .inl f_high))] s.heap.size = A at hD hX ⊢
  have hA : ∀ q : Nat, s.heap.size ≤ q → A q := fun q h => by rw [← hAe]; exact Or.inr h
  have hS : va_S A s.heap s.heap [] := va_S.rf
  have hl := lv_entry ([.ref h0, .int x0, .int y0, .int x1, .int y1, .int lo, .int hi]) (n := 9) (Nat.le_of_ble_eq_true rfl)
  rw [lg_entry_eq]
  generalize (lg_sl ([.ref h0, .int x0, .int y0, .int x1, .int y1, .int lo, .int hi]) ++ List.replicate (9 - (lg_sl ([.ref h0, .int x0, .int y0, .int x1, .int y1, .int lo, .int hi])).length) Slot.unset).toArray = ls at hl ⊢
  have hl : lv_has ls 9 [(0, .ref h0), (1, .int x0), (2, .int y0), (3, .int x1), (4, .int y1), (5, .int lo), (6, .int hi)] := hl
  have hP : va_P D vwCl [(h0, .inr (9, [.ref m_tape, .int 0, .int 0, .ref m_rule, .ref m_rules, .int 0, .ref m_stair, .int 0, .int 0, .int ((-1)), .int 5, .int 5, .ref m_low, .ref m_high, .ref m_crack, .int 0, .ref m_weight, .ref m_fire, .ref m_crowd, .ref m_state, .ref m_where, .int 0, .int 0, .int 0, .ref m_words, .int 0, .int 0, .int 0, .int 0, .int 0, .int 0, .ref m_told, .ref m_breaks, .ref m_row, .ref m_tried, .ref m_steps, .ref m_paths])), (m_low, .inl (y_low, 100, .inl f_low)), (m_high, .inl (y_high, 100, .inl f_high))] s.heap := hP
  refine lv_aload_n hx hb dX10_sound_0 rfl (lv_at hl 0 rfl) ?_
  refine lv_iconst (v := 0) hx hb dX10_sound_1 (by decide) ?_
  refine va_put (D := D) (ci := 9) (v := .int 0) (ty := .int) (C := RX10) (T := TX10) (N := 37) hx hb hts inG_X10 tyX10 tyX10_ok nmX10 hown hK hP hD hS 0 rfl rfl 2 (by decide) (hts _ kw_4_197) (fun _ h9 => h9) rfl (by decide +kernel) rfl rfl (Nat.le_of_ble_eq_true rfl) dX10_sound_2 (fun H locs hP hD hS => ?_)
  have hP : va_P D vwCl [(h0, .inr (9, [.ref m_tape, .int 0, .int 0, .ref m_rule, .ref m_rules, .int 0, .ref m_stair, .int 0, .int 0, .int ((-1)), .int 5, .int 5, .ref m_low, .ref m_high, .ref m_crack, .int 0, .ref m_weight, .ref m_fire, .ref m_crowd, .ref m_state, .ref m_where, .int 0, .int 0, .int 0, .ref m_words, .int 0, .int 0, .int 0, .int 0, .int 0, .int 0, .ref m_told, .ref m_breaks, .ref m_row, .ref m_tried, .ref m_steps, .ref m_paths])), (m_low, .inl (y_low, 100, .inl f_low)), (m_high, .inl (y_high, 100, .inl f_high))] H := hP
  have hD : va_D A [(h0, .inr (9, [.ref m_tape, .int 0, .int 0, .ref m_rule, .ref m_rules, .int 0, .ref m_stair, .int 0, .int 0, .int ((-1)), .int 5, .int 5, .ref m_low, .ref m_high, .ref m_crack, .int 0, .ref m_weight, .ref m_fire, .ref m_crowd, .ref m_state, .ref m_where, .int 0, .int 0, .int 0, .ref m_words, .int 0, .int 0, .int 0, .int 0, .int 0, .int 0, .ref m_told, .ref m_breaks, .ref m_row, .ref m_tried, .ref m_steps, .ref m_paths])), (m_low, .inl (y_low, 100, .inl f_low)), (m_high, .inl (y_high, 100, .inl f_high))] := hD
  refine lv_aload_n hx hb dX10_sound_5 rfl (lv_at hl 0 rfl) ?_
  refine lv_iload_n hx hb dX10_sound_6 rfl (lv_at hl 1 rfl) ?_
  refine lv_iload_n hx hb dX10_sound_7 rfl (lv_at hl 2 rfl) ?_
  refine mc_Vi (rest := []) (wr := [(m_low, .inl (y_low, 100, .inl f_low)), (m_high, .inl (y_high, 100, .inl f_high))]) F hK hP hD hS hA (m_isCell l D h0 m_tape m_rule m_rules m_stair m_low m_high m_crack m_weight m_fire m_crowd m_state m_where m_words m_told m_breaks m_row m_tried m_steps m_paths 0 0 0 0 0 ((-1)) 0 0 0 0 0 0 0 0 0 0 5 5 x0 y0 (by omega) (by omega)) ⟨gk_X10_155.1, gk_X10_155.2, Nat.le_of_ble_eq_true rfl, Nat.le_of_ble_eq_true rfl⟩ [0] [1, 2] [] ⟨rfl, rfl, rfl, rfl, by decide⟩ rfl xT_move (fun _ _ _ => trivial) 0 rfl rfl rfl hl.1 rfl (Nat.le_of_ble_eq_true rfl) dX10_sound_8 ⟨Nat.le_of_ble_eq_true rfl, Nat.le_of_ble_eq_true rfl⟩ (fun r_1 _ H locs hw hK1 hP hD hS => ?_)
  have hP : va_P D vwCl [(m_low, .inl (y_low, 100, .inl f_low)), (m_high, .inl (y_high, 100, .inl f_high)), (h0, .inr (9, [.ref m_tape, .int 0, .int 0, .ref m_rule, .ref m_rules, .int 0, .ref m_stair, .int 0, .int 0, .int (((-1))), .int 5, .int 5, .ref m_low, .ref m_high, .ref m_crack, .int 0, .ref m_weight, .ref m_fire, .ref m_crowd, .ref m_state, .ref m_where, .int 0, .int 0, .int 0, .ref m_words, .int 0, .int 0, .int 0, .int 0, .int 0, .int 0, .ref m_told, .ref m_breaks, .ref m_row, .ref m_tried, .ref m_steps, .ref m_paths]))] H := hP
  have hD : va_D A [(m_low, .inl (y_low, 100, .inl f_low)), (m_high, .inl (y_high, 100, .inl f_high)), (h0, .inr (9, [.ref m_tape, .int 0, .int 0, .ref m_rule, .ref m_rules, .int 0, .ref m_stair, .int 0, .int 0, .int (((-1))), .int 5, .int 5, .ref m_low, .ref m_high, .ref m_crack, .int 0, .ref m_weight, .ref m_fire, .ref m_crowd, .ref m_state, .ref m_where, .int 0, .int 0, .int 0, .ref m_words, .int 0, .int 0, .int 0, .int 0, .int 0, .int 0, .ref m_told, .ref m_breaks, .ref m_row, .ref m_tried, .ref m_steps, .ref m_paths]))] := hD
  have hw_2 : r_1 = (if (x0 < 0 ∨ ¬ x0 < nI 5 ∨ y0 < 0 ∨ ¬ y0 < nI 5) then 0 else 1) := hw
  by_cases ho_3 : (x0 < 0 ∨ ¬ x0 < nI 5 ∨ y0 < 0 ∨ ¬ y0 < nI 5)
  · skip
    obtain rfl : r_1 = 0 := by rw [hw_2, if_pos ho_3]
    refine lv_if_eq (tgt := 54) hx hb dX10_sound_11 (by decide) (fun c_4 => ?_) (fun c_4 => absurd c_4 (by decide))
    refine lv_iconst (v := 0) hx hb dX10_sound_54 (by decide) ?_
    have hP9 := hP.sub (ws' := []) [] rfl
    have hD9 := hD.sub (ws' := []) [] (by decide) rfl
    have hK9 := hK.sub (tys' := []) [] rfl
    refine W.widen (k := 0) (n := 0) (by decide) (by decide) ?_
    exact W.zret (v := 0) hx hb hr rfl (fun t ht hW => ⟨⟨0, (), rfl, by simp only [ho_3, or_false, false_or, or_true, true_or, not_true_eq_false, not_false_eq_true, ↓reduceIte], by rw [ht]; exact hP9, va_K.moved hW.alike hK9, hD9⟩, hS.F ht⟩) hS.2.2 dX10_sound_55
  · skip
    obtain rfl : r_1 = 1 := by rw [hw_2, if_neg ho_3]
    obtain ⟨i_5, hi_5, ei_5⟩ : ∃ j : Nat, j < 5 ∧ x0 = nI j := n_lt (fun q => ho_3 (Or.inl q)) (fun q => ho_3 (Or.inr (Or.inl (Int32.not_lt.mpr q)))) (by omega)
    obtain ⟨j_6, hj_6, ej_6⟩ : ∃ j : Nat, j < 5 ∧ y0 = nI j := n_lt (fun q => ho_3 (Or.inr (Or.inr (Or.inl q)))) (fun q => ho_3 (Or.inr (Or.inr (Or.inr (Int32.not_lt.mpr q))))) (by omega)
    subst ei_5
    subst ej_6
    have hl : lv_has ls 9 [(0, .ref h0), (1, .int (nI i_5)), (2, .int (nI j_6)), (3, .int x1), (4, .int y1), (5, .int lo), (6, .int hi)] := hl
    refine lv_if_eq (tgt := 54) hx hb dX10_sound_11 (by decide) (fun c_7 => absurd c_7 (by decide)) (fun c_7 => ?_)
    refine lv_aload_n hx hb dX10_sound_14 rfl (lv_at hl 0 rfl) ?_
    refine lv_iload_n hx hb dX10_sound_15 rfl (lv_at hl 3 rfl) ?_
    refine lv_iload hx hb dX10_sound_16 (lv_at hl 4 rfl) ?_
    refine mc_Vi (rest := []) (wr := [(m_low, .inl (y_low, 100, .inl f_low)), (m_high, .inl (y_high, 100, .inl f_high))]) F hK hP hD hS hA (m_isCell l D h0 m_tape m_rule m_rules m_stair m_low m_high m_crack m_weight m_fire m_crowd m_state m_where m_words m_told m_breaks m_row m_tried m_steps m_paths 0 0 0 0 0 (((-1))) 0 0 0 0 0 0 0 0 0 0 5 5 x1 y1 (by omega) (by omega)) ⟨gk_X10_155.1, gk_X10_155.2, Nat.le_of_ble_eq_true rfl, Nat.le_of_ble_eq_true rfl⟩ [2] [0, 1] [] ⟨rfl, rfl, rfl, rfl, by decide⟩ rfl xT_move (fun _ _ _ => trivial) 2 rfl rfl rfl hl.1 rfl (Nat.le_of_ble_eq_true rfl) dX10_sound_18 ⟨Nat.le_of_ble_eq_true rfl, Nat.le_of_ble_eq_true rfl⟩ (fun r_8 _ H locs hw hK1 hP hD hS => ?_)
    have hP : va_P D vwCl [(m_low, .inl (y_low, 100, .inl f_low)), (m_high, .inl (y_high, 100, .inl f_high)), (h0, .inr (9, [.ref m_tape, .int 0, .int 0, .ref m_rule, .ref m_rules, .int 0, .ref m_stair, .int 0, .int 0, .int ((((-1)))), .int 5, .int 5, .ref m_low, .ref m_high, .ref m_crack, .int 0, .ref m_weight, .ref m_fire, .ref m_crowd, .ref m_state, .ref m_where, .int 0, .int 0, .int 0, .ref m_words, .int 0, .int 0, .int 0, .int 0, .int 0, .int 0, .ref m_told, .ref m_breaks, .ref m_row, .ref m_tried, .ref m_steps, .ref m_paths]))] H := hP
    have hD : va_D A [(m_low, .inl (y_low, 100, .inl f_low)), (m_high, .inl (y_high, 100, .inl f_high)), (h0, .inr (9, [.ref m_tape, .int 0, .int 0, .ref m_rule, .ref m_rules, .int 0, .ref m_stair, .int 0, .int 0, .int ((((-1)))), .int 5, .int 5, .ref m_low, .ref m_high, .ref m_crack, .int 0, .ref m_weight, .ref m_fire, .ref m_crowd, .ref m_state, .ref m_where, .int 0, .int 0, .int 0, .ref m_words, .int 0, .int 0, .int 0, .int 0, .int 0, .int 0, .ref m_told, .ref m_breaks, .ref m_row, .ref m_tried, .ref m_steps, .ref m_paths]))] := hD
    have hw_9 : r_8 = (if (x1 < 0 ∨ ¬ x1 < nI 5 ∨ y1 < 0 ∨ ¬ y1 < nI 5) then 0 else 1) := hw
    by_cases ho_10 : (x1 < 0 ∨ ¬ x1 < nI 5 ∨ y1 < 0 ∨ ¬ y1 < nI 5)
    · skip
      obtain rfl : r_8 = 0 := by rw [hw_9, if_pos ho_10]
      refine lv_if_eq (tgt := 54) hx hb dX10_sound_21 (by decide) (fun c_11 => ?_) (fun c_11 => absurd c_11 (by decide))
      refine lv_iconst (v := 0) hx hb dX10_sound_54 (by decide) ?_
      have hP9 := hP.sub (ws' := []) [] rfl
      have hD9 := hD.sub (ws' := []) [] (by decide) rfl
      have hK9 := hK.sub (tys' := []) [] rfl
      refine W.widen (k := 0) (n := 0) (by decide) (by decide) ?_
      exact W.zret (v := 0) hx hb hr rfl (fun t ht hW => ⟨⟨0, (), rfl, by simp only [ho_3, ho_10, or_false, false_or, or_true, true_or, not_true_eq_false, not_false_eq_true, ↓reduceIte], by rw [ht]; exact hP9, va_K.moved hW.alike hK9, hD9⟩, hS.F ht⟩) hS.2.2 dX10_sound_55
    · skip
      obtain rfl : r_8 = 1 := by rw [hw_9, if_neg ho_10]
      obtain ⟨i_12, hi_12, ei_12⟩ : ∃ j : Nat, j < 5 ∧ x1 = nI j := n_lt (fun q => ho_10 (Or.inl q)) (fun q => ho_10 (Or.inr (Or.inl (Int32.not_lt.mpr q)))) (by omega)
      obtain ⟨j_13, hj_13, ej_13⟩ : ∃ j : Nat, j < 5 ∧ y1 = nI j := n_lt (fun q => ho_10 (Or.inr (Or.inr (Or.inl q)))) (fun q => ho_10 (Or.inr (Or.inr (Or.inr (Int32.not_lt.mpr q))))) (by omega)
      subst ei_12
      subst ej_13
      have hl : lv_has ls 9 [(0, .ref h0), (1, .int (nI i_5)), (2, .int (nI j_6)), (3, .int (nI i_12)), (4, .int (nI j_13)), (5, .int lo), (6, .int hi)] := hl
      refine lv_if_eq (tgt := 54) hx hb dX10_sound_21 (by decide) (fun c_14 => absurd c_14 (by decide)) (fun c_14 => ?_)
      refine lv_iload_n hx hb dX10_sound_24 rfl (lv_at hl 1 rfl) ?_
      refine lv_iload_n hx hb dX10_sound_25 rfl (lv_at hl 3 rfl) ?_
      refine lv_icmp_gt (tgt := 54) hx hb dX10_sound_26 (by decide) (fun c_15 => ?_) (fun c_15 => ?_)
      · skip
        have c_15n : i_12 < i_5 := (nI_ltI (by omega) (by omega)).mp c_15
        refine lv_iconst (v := 0) hx hb dX10_sound_54 (by decide) ?_
        have hP9 := hP.sub (ws' := []) [] rfl
        have hD9 := hD.sub (ws' := []) [] (by decide) rfl
        have hK9 := hK.sub (tys' := []) [] rfl
        refine W.widen (k := 0) (n := 0) (by decide) (by decide) ?_
        exact W.zret (v := 0) hx hb hr rfl (fun t ht hW => ⟨⟨0, (), rfl, by simp only [ho_3, ho_10, c_15, or_false, false_or, or_true, true_or, not_true_eq_false, not_false_eq_true, ↓reduceIte], by rw [ht]; exact hP9, va_K.moved hW.alike hK9, hD9⟩, hS.F ht⟩) hS.2.2 dX10_sound_55
      · skip
        have c_15n : i_5 ≤ i_12 := nb_lt (by omega) (by omega) c_15
        refine lv_iload_n hx hb dX10_sound_29 rfl (lv_at hl 2 rfl) ?_
        refine lv_iload hx hb dX10_sound_30 (lv_at hl 4 rfl) ?_
        refine lv_icmp_gt (tgt := 54) hx hb dX10_sound_32 (by decide) (fun c_16 => ?_) (fun c_16 => ?_)
        · skip
          have c_16n : j_13 < j_6 := (nI_ltI (by omega) (by omega)).mp c_16
          refine lv_iconst (v := 0) hx hb dX10_sound_54 (by decide) ?_
          have hP9 := hP.sub (ws' := []) [] rfl
          have hD9 := hD.sub (ws' := []) [] (by decide) rfl
          have hK9 := hK.sub (tys' := []) [] rfl
          refine W.widen (k := 0) (n := 0) (by decide) (by decide) ?_
          exact W.zret (v := 0) hx hb hr rfl (fun t ht hW => ⟨⟨0, (), rfl, by simp only [ho_3, ho_10, c_15, c_16, or_false, false_or, or_true, true_or, not_true_eq_false, not_false_eq_true, ↓reduceIte], by rw [ht]; exact hP9, va_K.moved hW.alike hK9, hD9⟩, hS.F ht⟩) hS.2.2 dX10_sound_55
        · skip
          have c_16n : j_6 ≤ j_13 := nb_lt (by omega) (by omega) c_16
          refine lv_iload hx hb dX10_sound_35 (lv_at hl 5 rfl) ?_
          refine lv_if_lt (tgt := 54) hx hb dX10_sound_37 (by decide) (fun c_17 => ?_) (fun c_17 => ?_)
          · skip
            refine lv_iconst (v := 0) hx hb dX10_sound_54 (by decide) ?_
            have hP9 := hP.sub (ws' := []) [] rfl
            have hD9 := hD.sub (ws' := []) [] (by decide) rfl
            have hK9 := hK.sub (tys' := []) [] rfl
            refine W.widen (k := 0) (n := 0) (by decide) (by decide) ?_
            exact W.zret (v := 0) hx hb hr rfl (fun t ht hW => ⟨⟨0, (), rfl, by simp only [ho_3, ho_10, c_15, c_16, c_17, or_false, false_or, or_true, true_or, not_true_eq_false, not_false_eq_true, ↓reduceIte], by rw [ht]; exact hP9, va_K.moved hW.alike hK9, hD9⟩, hS.F ht⟩) hS.2.2 dX10_sound_55
          · skip
            refine lv_iload hx hb dX10_sound_40 (lv_at hl 5 rfl) ?_
            refine lv_iload hx hb dX10_sound_42 (lv_at hl 6 rfl) ?_
            refine lv_icmp_gt (tgt := 54) hx hb dX10_sound_44 (by decide) (fun c_18 => ?_) (fun c_18 => ?_)
            · skip
              refine lv_iconst (v := 0) hx hb dX10_sound_54 (by decide) ?_
              have hP9 := hP.sub (ws' := []) [] rfl
              have hD9 := hD.sub (ws' := []) [] (by decide) rfl
              have hK9 := hK.sub (tys' := []) [] rfl
              refine W.widen (k := 0) (n := 0) (by decide) (by decide) ?_
              exact W.zret (v := 0) hx hb hr rfl (fun t ht hW => ⟨⟨0, (), rfl, by simp only [ho_3, ho_10, c_15, c_16, c_17, c_18, or_false, false_or, or_true, true_or, not_true_eq_false, not_false_eq_true, ↓reduceIte], by rw [ht]; exact hP9, va_K.moved hW.alike hK9, hD9⟩, hS.F ht⟩) hS.2.2 dX10_sound_55
            · skip
              refine lv_iload hx hb dX10_sound_47 (lv_at hl 6 rfl) ?_
              refine lv_bipush (v := 99) hx hb dX10_sound_49 (by decide) ?_
              refine lv_icmp_le (tgt := 56) hx hb dX10_sound_51 (by decide) (fun c_19 => ?_) (fun c_19 => ?_)
              · skip
                have c_19 := Int32.not_lt.mpr c_19
                refine lv_iload_n hx hb dX10_sound_56 rfl (lv_at hl 2 rfl) ?_
                refine lv_istore (lv' := [(7, .int (nI j_6)), (0, .ref h0), (1, .int (nI i_5)), (2, .int (nI j_6)), (3, .int (nI i_12)), (4, .int (nI j_13)), (5, .int lo), (6, .int hi)]) hx hb dX10_sound_57 hl (by decide) rfl (fun ls hl => ?_)
                refine lp_m_sound_out F hA h0 m_tape m_rule m_rules m_stair m_low m_high m_crack m_weight m_fire m_crowd m_state m_where m_words m_told m_breaks m_row m_tried m_steps m_paths y_low y_high i_5 i_12 j_13 lo hi (hK.sub [0, 1] rfl) (fun g1_20 g2_21  H locs hP hD hS ls hl => ?_) _ f_low f_high j_6 (by omega) (by omega) (by omega) (by omega) (Nat.lt_succ_self _) _ _ (hP.sub [2, 0, 1] rfl) (hD.sub [2, 0, 1] (by decide) rfl) hS ls (lv_sub hl [1, 2, 4, 5, 6, 7, 0] rfl)
                refine lv_iconst (v := 1) hx hb dX10_sound_117 (by decide) ?_
                have hP9 := hP.sub (ws' := []) [] rfl
                have hD9 := hD.sub (ws' := []) [] (by decide) rfl
                have hK9 := hK.sub (tys' := []) [] rfl
                refine W.widen (k := 0) (n := 0) (by decide) (by decide) ?_
                exact W.zret (v := 1) hx hb hr rfl (fun t ht hW => ⟨⟨1, (), rfl, by simp only [ho_3, ho_10, c_15, c_16, c_17, c_18, c_19, or_false, false_or, or_true, true_or, not_true_eq_false, not_false_eq_true, ↓reduceIte], by rw [ht]; exact hP9, va_K.moved hW.alike hK9, hD9⟩, hS.F ht⟩) hS.2.2 dX10_sound_118
              · skip
                have c_19 := Int32.not_le.mp c_19
                refine lv_iconst (v := 0) hx hb dX10_sound_54 (by decide) ?_
                have hP9 := hP.sub (ws' := []) [] rfl
                have hD9 := hD.sub (ws' := []) [] (by decide) rfl
                have hK9 := hK.sub (tys' := []) [] rfl
                refine W.widen (k := 0) (n := 0) (by decide) (by decide) ?_
                exact W.zret (v := 0) hx hb hr rfl (fun t ht hW => ⟨⟨0, (), rfl, by simp only [ho_3, ho_10, c_15, c_16, c_17, c_18, c_19, or_false, false_or, or_true, true_or, not_true_eq_false, not_false_eq_true, ↓reduceIte], by rw [ht]; exact hP9, va_K.moved hW.alike hK9, hD9⟩, hS.F ht⟩) hS.2.2 dX10_sound_55
theorem dX10_booth_0 : decode cX10_booth 0 = .ok (.aload_n 0, 1) := by decide +kernel
theorem dX10_booth_1 : decode cX10_booth 1 = .ok (.iconst 0, 1) := by decide +kernel
theorem dX10_booth_2 : decode cX10_booth 2 = .ok (.putfield 78, 3) := by decide +kernel
theorem dX10_booth_5 : decode cX10_booth 5 = .ok (.aload_n 0, 1) := by decide +kernel
theorem dX10_booth_6 : decode cX10_booth 6 = .ok (.getfield 146, 3) := by decide +kernel
theorem dX10_booth_9 : decode cX10_booth 9 = .ok (.bipush 10, 2) := by decide +kernel
theorem dX10_booth_11 : decode cX10_booth 11 = .ok (.if_icmp .eq 24, 3) := by decide +kernel
theorem dX10_booth_14 : decode cX10_booth 14 = .ok (.iload_n 1, 1) := by decide +kernel
theorem dX10_booth_15 : decode cX10_booth 15 = .ok (.iconst 1, 1) := by decide +kernel
theorem dX10_booth_16 : decode cX10_booth 16 = .ok (.if_icmp .lt 19, 3) := by decide +kernel
theorem dX10_booth_35 : decode cX10_booth 35 = .ok (.iconst (-1), 1) := by decide +kernel
theorem dX10_booth_36 : decode cX10_booth 36 = .ok (.ireturn, 1) := by decide +kernel
theorem dX10_booth_19 : decode cX10_booth 19 = .ok (.iload_n 1, 1) := by decide +kernel
theorem dX10_booth_20 : decode cX10_booth 20 = .ok (.bipush 50, 2) := by decide +kernel
theorem dX10_booth_22 : decode cX10_booth 22 = .ok (.if_icmp .gt 13, 3) := by decide +kernel
theorem dX10_booth_25 : decode cX10_booth 25 = .ok (.iload_n 3, 1) := by decide +kernel
theorem dX10_booth_26 : decode cX10_booth 26 = .ok (.ifCond .lt 9, 3) := by decide +kernel
theorem dX10_booth_29 : decode cX10_booth 29 = .ok (.iload_n 3, 1) := by decide +kernel
theorem dX10_booth_30 : decode cX10_booth 30 = .ok (.bipush 99, 2) := by decide +kernel
theorem dX10_booth_32 : decode cX10_booth 32 = .ok (.if_icmp .le 5, 3) := by decide +kernel
theorem dX10_booth_37 : decode cX10_booth 37 = .ok (.aload_n 0, 1) := by decide +kernel
theorem dX10_booth_38 : decode cX10_booth 38 = .ok (.getfield 42, 3) := by decide +kernel
theorem dX10_booth_41 : decode cX10_booth 41 = .ok (.aload_n 0, 1) := by decide +kernel
theorem dX10_booth_42 : decode cX10_booth 42 = .ok (.getfield 146, 3) := by decide +kernel
theorem dX10_booth_45 : decode cX10_booth 45 = .ok (.iload_n 1, 1) := by decide +kernel
theorem dX10_booth_46 : decode cX10_booth 46 = .ok (.iastore, 1) := by decide +kernel
theorem dX10_booth_47 : decode cX10_booth 47 = .ok (.aload_n 0, 1) := by decide +kernel
theorem dX10_booth_48 : decode cX10_booth 48 = .ok (.getfield 45, 3) := by decide +kernel
theorem dX10_booth_51 : decode cX10_booth 51 = .ok (.aload_n 0, 1) := by decide +kernel
theorem dX10_booth_52 : decode cX10_booth 52 = .ok (.getfield 146, 3) := by decide +kernel
theorem dX10_booth_55 : decode cX10_booth 55 = .ok (.iload_n 2, 1) := by decide +kernel
theorem dX10_booth_56 : decode cX10_booth 56 = .ok (.bastore, 1) := by decide +kernel
theorem dX10_booth_57 : decode cX10_booth 57 = .ok (.aload_n 0, 1) := by decide +kernel
theorem dX10_booth_58 : decode cX10_booth 58 = .ok (.getfield 48, 3) := by decide +kernel
theorem dX10_booth_61 : decode cX10_booth 61 = .ok (.aload_n 0, 1) := by decide +kernel
theorem dX10_booth_62 : decode cX10_booth 62 = .ok (.getfield 146, 3) := by decide +kernel
theorem dX10_booth_65 : decode cX10_booth 65 = .ok (.iload_n 3, 1) := by decide +kernel
theorem dX10_booth_66 : decode cX10_booth 66 = .ok (.iastore, 1) := by decide +kernel
theorem dX10_booth_67 : decode cX10_booth 67 = .ok (.aload_n 0, 1) := by decide +kernel
theorem dX10_booth_68 : decode cX10_booth 68 = .ok (.getfield 51, 3) := by decide +kernel
theorem dX10_booth_71 : decode cX10_booth 71 = .ok (.aload_n 0, 1) := by decide +kernel
theorem dX10_booth_72 : decode cX10_booth 72 = .ok (.getfield 146, 3) := by decide +kernel
theorem dX10_booth_75 : decode cX10_booth 75 = .ok (.iconst 0, 1) := by decide +kernel
theorem dX10_booth_76 : decode cX10_booth 76 = .ok (.iastore, 1) := by decide +kernel
theorem dX10_booth_77 : decode cX10_booth 77 = .ok (.aload_n 0, 1) := by decide +kernel
theorem dX10_booth_78 : decode cX10_booth 78 = .ok (.dup, 1) := by decide +kernel
theorem dX10_booth_79 : decode cX10_booth 79 = .ok (.getfield 146, 3) := by decide +kernel
theorem dX10_booth_82 : decode cX10_booth 82 = .ok (.iconst 1, 1) := by decide +kernel
theorem dX10_booth_83 : decode cX10_booth 83 = .ok (.iadd, 1) := by decide +kernel
theorem dX10_booth_84 : decode cX10_booth 84 = .ok (.putfield 146, 3) := by decide +kernel
theorem dX10_booth_87 : decode cX10_booth 87 = .ok (.aload_n 0, 1) := by decide +kernel
theorem dX10_booth_88 : decode cX10_booth 88 = .ok (.getfield 146, 3) := by decide +kernel
theorem dX10_booth_91 : decode cX10_booth 91 = .ok (.iconst 1, 1) := by decide +kernel
theorem dX10_booth_92 : decode cX10_booth 92 = .ok (.isub, 1) := by decide +kernel
theorem dX10_booth_93 : decode cX10_booth 93 = .ok (.ireturn, 1) := by decide +kernel
set_option maxHeartbeats 4000000 in
set_option maxRecDepth 100000 in
theorem m_booth (l : Launch) (D : va_G) (h0 : Nat) (m_tape : Nat) (m_rule : Nat) (m_rules : Nat) (m_stair : Nat) (m_low : Nat) (m_high : Nat) (m_crack : Nat) (m_weight : Nat) (m_fire : Nat) (m_crowd : Nat) (m_state : Nat) (m_where : Nat) (m_words : Nat) (m_told : Nat) (m_breaks : Nat) (m_row : Nat) (m_tried : Nat) (m_steps : Nat) (m_paths : Nat) (y_weight : ClassId) (y_fire : ClassId) (y_crowd : ClassId) (y_state : ClassId) (f_weight : Nat → Int32) (f_fire : Nat → Int32) (f_crowd : Nat → Int32) (f_state : Nat → Int32) (w1 : Int32) (fi : Int32) (cr : Int32) : cI l yX10_booth (.code yX10_booth cX10_booth 4 (some .int)) ({ frames := 0, cells := 0, slots := 0, locals := 0 }) D [(y_weight, .int), (y_fire, .boolean), (y_crowd, .int), (y_state, .int)] [(h0, .inr (9, [.ref m_tape, .int 0, .int 0, .ref m_rule, .ref m_rules, .int 0, .ref m_stair, .int 0, .int 0, .int ((-1)), .int 5, .int 5, .ref m_low, .ref m_high, .ref m_crack, .int 0, .ref m_weight, .ref m_fire, .ref m_crowd, .ref m_state, .ref m_where, .int 0, .int 0, .int 0, .ref m_words, .int 0, .int 0, .int 0, .int 0, .int 0, .int 0, .ref m_told, .ref m_breaks, .ref m_row, .ref m_tried, .ref m_steps, .ref m_paths])), (m_weight, .inl (y_weight, 10, .inl f_weight)), (m_fire, .inl (y_fire, 10, .inl f_fire)), (m_crowd, .inl (y_crowd, 10, .inl f_crowd)), (m_state, .inl (y_state, 10, .inl f_state))] xT [.ref h0, .int w1, .int fi, .int cr] (S := Unit) (fun r _ => r = (if w1 < 1 ∨ 50 < w1 ∨ cr < 0 ∨ 99 < cr then (-1) else 0)) (fun _ => []) (fun _ => []) := by
  intro sz
  refine Met.ofW (cc := cX10_booth) (maxL := 4) (ret := (some .int)) (by decide) rfl ?_
  intro p e s m args below meth c s₁ B hml hv
  obtain ⟨rfl, hsz, hP, hK, hD0, hX⟩ := hv
  have hx := B.exec
  have hb := B.bytes
  have hr := B.returns
  have hts0 := atoms_spec (ws := .code yX10_booth cX10_booth 4 (some .int) :: gw) B.pre
  have hts := fun (w : Cond) (h : w ∈ gw) => hts0 w (List.mem_cons_of_mem _ h)
  have hown : s.vm.findClass RX10 = some m.cls := findClass_of_methodNamed B.named
  have hlocks := B.notSynchronized
  have F : mFix p s m _ c cX10_booth 4 RX10 := ⟨hx, hb, hml, hown, hts⟩
  subst hsz
  have hD := hD0.self (sz := s.heap.size)
  generalize hAe : va_A [(h0, .inr (9, [.ref m_tape, .int 0, .int 0, .ref m_rule, .ref m_rules, .int 0, .ref m_stair, .int 0, .int 0, .int ((-1)), .int 5, .int 5, .ref m_low, .ref m_high, .ref m_crack, .int 0, .ref m_weight, .ref m_fire, .ref m_crowd, .ref m_state, .ref m_where, .int 0, .int 0, .int 0, .ref m_words, .int 0, .int 0, .int 0, .int 0, .int 0, .int 0, .ref m_told, .ref m_breaks, .ref m_row, .ref m_tried, .ref m_steps, .ref m_paths])), (m_weight, .inl (y_weight, 10, .inl f_weight)), (m_fire, .inl (y_fire, 10, .inl f_fire)), (m_crowd, .inl (y_crowd, 10, .inl f_crowd)), (m_state, .inl (y_state, 10, .inl f_state))] s.heap.size = A at hD hX ⊢
  have hA : ∀ q : Nat, s.heap.size ≤ q → A q := fun q h => by rw [← hAe]; exact Or.inr h
  have hS : va_S A s.heap s.heap [] := va_S.rf
  have hl := lv_entry ([.ref h0, .int w1, .int fi, .int cr]) (n := 4) (Nat.le_of_ble_eq_true rfl)
  rw [lg_entry_eq]
  generalize (lg_sl ([.ref h0, .int w1, .int fi, .int cr]) ++ List.replicate (4 - (lg_sl ([.ref h0, .int w1, .int fi, .int cr])).length) Slot.unset).toArray = ls at hl ⊢
  have hl : lv_has ls 4 [(0, .ref h0), (1, .int w1), (2, .int fi), (3, .int cr)] := hl
  have hP : va_P D vwCl [(h0, .inr (9, [.ref m_tape, .int 0, .int 0, .ref m_rule, .ref m_rules, .int 0, .ref m_stair, .int 0, .int 0, .int ((-1)), .int 5, .int 5, .ref m_low, .ref m_high, .ref m_crack, .int 0, .ref m_weight, .ref m_fire, .ref m_crowd, .ref m_state, .ref m_where, .int 0, .int 0, .int 0, .ref m_words, .int 0, .int 0, .int 0, .int 0, .int 0, .int 0, .ref m_told, .ref m_breaks, .ref m_row, .ref m_tried, .ref m_steps, .ref m_paths])), (m_weight, .inl (y_weight, 10, .inl f_weight)), (m_fire, .inl (y_fire, 10, .inl f_fire)), (m_crowd, .inl (y_crowd, 10, .inl f_crowd)), (m_state, .inl (y_state, 10, .inl f_state))] s.heap := hP
  refine lv_aload_n hx hb dX10_booth_0 rfl (lv_at hl 0 rfl) ?_
  refine lv_iconst (v := 0) hx hb dX10_booth_1 (by decide) ?_
  refine va_put (D := D) (ci := 9) (v := .int 0) (ty := .int) (C := RX10) (T := TX10) (N := 37) hx hb hts inG_X10 tyX10 tyX10_ok nmX10 hown hK hP hD hS 0 rfl rfl 2 (by decide) (hts _ kw_4_197) (fun _ h9 => h9) rfl (by decide +kernel) rfl rfl (Nat.le_of_ble_eq_true rfl) dX10_booth_2 (fun H locs hP hD hS => ?_)
  have hP : va_P D vwCl [(h0, .inr (9, [.ref m_tape, .int 0, .int 0, .ref m_rule, .ref m_rules, .int 0, .ref m_stair, .int 0, .int 0, .int ((-1)), .int 5, .int 5, .ref m_low, .ref m_high, .ref m_crack, .int 0, .ref m_weight, .ref m_fire, .ref m_crowd, .ref m_state, .ref m_where, .int 0, .int 0, .int 0, .ref m_words, .int 0, .int 0, .int 0, .int 0, .int 0, .int 0, .ref m_told, .ref m_breaks, .ref m_row, .ref m_tried, .ref m_steps, .ref m_paths])), (m_weight, .inl (y_weight, 10, .inl f_weight)), (m_fire, .inl (y_fire, 10, .inl f_fire)), (m_crowd, .inl (y_crowd, 10, .inl f_crowd)), (m_state, .inl (y_state, 10, .inl f_state))] H := hP
  have hD : va_D A [(h0, .inr (9, [.ref m_tape, .int 0, .int 0, .ref m_rule, .ref m_rules, .int 0, .ref m_stair, .int 0, .int 0, .int ((-1)), .int 5, .int 5, .ref m_low, .ref m_high, .ref m_crack, .int 0, .ref m_weight, .ref m_fire, .ref m_crowd, .ref m_state, .ref m_where, .int 0, .int 0, .int 0, .ref m_words, .int 0, .int 0, .int 0, .int 0, .int 0, .int 0, .ref m_told, .ref m_breaks, .ref m_row, .ref m_tried, .ref m_steps, .ref m_paths])), (m_weight, .inl (y_weight, 10, .inl f_weight)), (m_fire, .inl (y_fire, 10, .inl f_fire)), (m_crowd, .inl (y_crowd, 10, .inl f_crowd)), (m_state, .inl (y_state, 10, .inl f_state))] := hD
  refine lv_aload_n hx hb dX10_booth_5 rfl (lv_at hl 0 rfl) ?_
  refine va_get (D := D) (ci := 9) (v := .int 0) (C := RX10) (T := TX10) (N := 37) hx hb hts inG_X10 hown hK hP 0 rfl rfl 15 (by decide) (hts _ kw_4_210) (fun _ h9 => h9) rfl dX10_booth_6 ?_
  refine lv_bipush (v := 10) hx hb dX10_booth_9 (by decide) ?_
  refine lv_icmp_eq (tgt := 35) hx hb dX10_booth_11 (by decide) (fun c_1 => absurd c_1 (by decide)) (fun c_1 => ?_)
  refine lv_iload_n hx hb dX10_booth_14 rfl (lv_at hl 1 rfl) ?_
  refine lv_iconst (v := 1) hx hb dX10_booth_15 (by decide) ?_
  refine lv_icmp_lt (tgt := 35) hx hb dX10_booth_16 (by decide) (fun c_2 => ?_) (fun c_2 => ?_)
  · skip
    refine lv_iconst (v := -1) hx hb dX10_booth_35 (by decide) ?_
    have hP9 := hP.sub (ws' := []) [] rfl
    have hD9 := hD.sub (ws' := []) [] (by decide) rfl
    have hK9 := hK.sub (tys' := []) [] rfl
    refine W.widen (k := 0) (n := 0) (by decide) (by decide) ?_
    exact W.iret (v := (-1)) hx hb hr (fun t ht hW => ⟨⟨((-1)), (), rfl, by simp only [c_2, or_false, false_or, or_true, true_or, not_true_eq_false, not_false_eq_true, ↓reduceIte], by rw [ht]; exact hP9, va_K.moved hW.alike hK9, hD9⟩, hS.F ht⟩) hS.2.2 dX10_booth_36
  · skip
    refine lv_iload_n hx hb dX10_booth_19 rfl (lv_at hl 1 rfl) ?_
    refine lv_bipush (v := 50) hx hb dX10_booth_20 (by decide) ?_
    refine lv_icmp_gt (tgt := 35) hx hb dX10_booth_22 (by decide) (fun c_3 => ?_) (fun c_3 => ?_)
    · skip
      refine lv_iconst (v := -1) hx hb dX10_booth_35 (by decide) ?_
      have hP9 := hP.sub (ws' := []) [] rfl
      have hD9 := hD.sub (ws' := []) [] (by decide) rfl
      have hK9 := hK.sub (tys' := []) [] rfl
      refine W.widen (k := 0) (n := 0) (by decide) (by decide) ?_
      exact W.iret (v := (-1)) hx hb hr (fun t ht hW => ⟨⟨((-1)), (), rfl, by simp only [c_2, c_3, or_false, false_or, or_true, true_or, not_true_eq_false, not_false_eq_true, ↓reduceIte], by rw [ht]; exact hP9, va_K.moved hW.alike hK9, hD9⟩, hS.F ht⟩) hS.2.2 dX10_booth_36
    · skip
      refine lv_iload_n hx hb dX10_booth_25 rfl (lv_at hl 3 rfl) ?_
      refine lv_if_lt (tgt := 35) hx hb dX10_booth_26 (by decide) (fun c_4 => ?_) (fun c_4 => ?_)
      · skip
        refine lv_iconst (v := -1) hx hb dX10_booth_35 (by decide) ?_
        have hP9 := hP.sub (ws' := []) [] rfl
        have hD9 := hD.sub (ws' := []) [] (by decide) rfl
        have hK9 := hK.sub (tys' := []) [] rfl
        refine W.widen (k := 0) (n := 0) (by decide) (by decide) ?_
        exact W.iret (v := (-1)) hx hb hr (fun t ht hW => ⟨⟨((-1)), (), rfl, by simp only [c_2, c_3, c_4, or_false, false_or, or_true, true_or, not_true_eq_false, not_false_eq_true, ↓reduceIte], by rw [ht]; exact hP9, va_K.moved hW.alike hK9, hD9⟩, hS.F ht⟩) hS.2.2 dX10_booth_36
      · skip
        refine lv_iload_n hx hb dX10_booth_29 rfl (lv_at hl 3 rfl) ?_
        refine lv_bipush (v := 99) hx hb dX10_booth_30 (by decide) ?_
        refine lv_icmp_le (tgt := 37) hx hb dX10_booth_32 (by decide) (fun c_5 => ?_) (fun c_5 => ?_)
        · skip
          have c_5 := Int32.not_lt.mpr c_5
          refine lv_aload_n hx hb dX10_booth_37 rfl (lv_at hl 0 rfl) ?_
          refine va_get (D := D) (ci := 9) (v := .ref m_weight) (C := RX10) (T := TX10) (N := 37) hx hb hts inG_X10 hown hK hP 0 rfl rfl 16 (by decide) (hts _ kw_4_211) (fun _ h9 => h9) rfl dX10_booth_38 ?_
          refine lv_aload_n hx hb dX10_booth_41 rfl (lv_at hl 0 rfl) ?_
          refine va_get (D := D) (ci := 9) (v := .int 0) (C := RX10) (T := TX10) (N := 37) hx hb hts inG_X10 hown hK hP 0 rfl rfl 15 (by decide) (hts _ kw_4_210) (fun _ h9 => h9) rfl dX10_booth_42 ?_
          refine lv_iload_n hx hb dX10_booth_45 rfl (lv_at hl 1 rfl) ?_
          refine m_iast hx hb hK hP hD hS 1 0 rfl rfl 0 rfl (by decide) (by decide) dX10_booth_46 (fun g_6 H locs eg_6 hP hD hS => ?_)
          have hP : va_P D vwCl [(h0, .inr (9, [.ref m_tape, .int 0, .int 0, .ref m_rule, .ref m_rules, .int 0, .ref m_stair, .int 0, .int 0, .int ((-1)), .int 5, .int 5, .ref m_low, .ref m_high, .ref m_crack, .int 0, .ref m_weight, .ref m_fire, .ref m_crowd, .ref m_state, .ref m_where, .int 0, .int 0, .int 0, .ref m_words, .int 0, .int 0, .int 0, .int 0, .int 0, .int 0, .ref m_told, .ref m_breaks, .ref m_row, .ref m_tried, .ref m_steps, .ref m_paths])), (m_weight, .inl (y_weight, 10, .inl g_6)), (m_fire, .inl (y_fire, 10, .inl f_fire)), (m_crowd, .inl (y_crowd, 10, .inl f_crowd)), (m_state, .inl (y_state, 10, .inl f_state))] H := hP
          have hD : va_D A [(h0, .inr (9, [.ref m_tape, .int 0, .int 0, .ref m_rule, .ref m_rules, .int 0, .ref m_stair, .int 0, .int 0, .int ((-1)), .int 5, .int 5, .ref m_low, .ref m_high, .ref m_crack, .int 0, .ref m_weight, .ref m_fire, .ref m_crowd, .ref m_state, .ref m_where, .int 0, .int 0, .int 0, .ref m_words, .int 0, .int 0, .int 0, .int 0, .int 0, .int 0, .ref m_told, .ref m_breaks, .ref m_row, .ref m_tried, .ref m_steps, .ref m_paths])), (m_weight, .inl (y_weight, 10, .inl g_6)), (m_fire, .inl (y_fire, 10, .inl f_fire)), (m_crowd, .inl (y_crowd, 10, .inl f_crowd)), (m_state, .inl (y_state, 10, .inl f_state))] := hD
          refine lv_aload_n hx hb dX10_booth_47 rfl (lv_at hl 0 rfl) ?_
          refine va_get (D := D) (ci := 9) (v := .ref m_fire) (C := RX10) (T := TX10) (N := 37) hx hb hts inG_X10 hown hK hP 0 rfl rfl 17 (by decide) (hts _ kw_4_212) (fun _ h9 => h9) rfl dX10_booth_48 ?_
          refine lv_aload_n hx hb dX10_booth_51 rfl (lv_at hl 0 rfl) ?_
          refine va_get (D := D) (ci := 9) (v := .int 0) (C := RX10) (T := TX10) (N := 37) hx hb hts inG_X10 hown hK hP 0 rfl rfl 15 (by decide) (hts _ kw_4_210) (fun _ h9 => h9) rfl dX10_booth_52 ?_
          refine lv_iload_n hx hb dX10_booth_55 rfl (lv_at hl 2 rfl) ?_
          refine m_zast hx hb hK hP hD hS 2 1 rfl rfl 0 rfl (by decide) (by decide) dX10_booth_56 (fun g_7 H locs eg_7 hP hD hS => ?_)
          have hP : va_P D vwCl [(h0, .inr (9, [.ref m_tape, .int 0, .int 0, .ref m_rule, .ref m_rules, .int 0, .ref m_stair, .int 0, .int 0, .int ((-1)), .int 5, .int 5, .ref m_low, .ref m_high, .ref m_crack, .int 0, .ref m_weight, .ref m_fire, .ref m_crowd, .ref m_state, .ref m_where, .int 0, .int 0, .int 0, .ref m_words, .int 0, .int 0, .int 0, .int 0, .int 0, .int 0, .ref m_told, .ref m_breaks, .ref m_row, .ref m_tried, .ref m_steps, .ref m_paths])), (m_weight, .inl (y_weight, 10, .inl g_6)), (m_fire, .inl (y_fire, 10, .inl g_7)), (m_crowd, .inl (y_crowd, 10, .inl f_crowd)), (m_state, .inl (y_state, 10, .inl f_state))] H := hP
          have hD : va_D A [(h0, .inr (9, [.ref m_tape, .int 0, .int 0, .ref m_rule, .ref m_rules, .int 0, .ref m_stair, .int 0, .int 0, .int ((-1)), .int 5, .int 5, .ref m_low, .ref m_high, .ref m_crack, .int 0, .ref m_weight, .ref m_fire, .ref m_crowd, .ref m_state, .ref m_where, .int 0, .int 0, .int 0, .ref m_words, .int 0, .int 0, .int 0, .int 0, .int 0, .int 0, .ref m_told, .ref m_breaks, .ref m_row, .ref m_tried, .ref m_steps, .ref m_paths])), (m_weight, .inl (y_weight, 10, .inl g_6)), (m_fire, .inl (y_fire, 10, .inl g_7)), (m_crowd, .inl (y_crowd, 10, .inl f_crowd)), (m_state, .inl (y_state, 10, .inl f_state))] := hD
          refine lv_aload_n hx hb dX10_booth_57 rfl (lv_at hl 0 rfl) ?_
          refine va_get (D := D) (ci := 9) (v := .ref m_crowd) (C := RX10) (T := TX10) (N := 37) hx hb hts inG_X10 hown hK hP 0 rfl rfl 18 (by decide) (hts _ kw_4_213) (fun _ h9 => h9) rfl dX10_booth_58 ?_
          refine lv_aload_n hx hb dX10_booth_61 rfl (lv_at hl 0 rfl) ?_
          refine va_get (D := D) (ci := 9) (v := .int 0) (C := RX10) (T := TX10) (N := 37) hx hb hts inG_X10 hown hK hP 0 rfl rfl 15 (by decide) (hts _ kw_4_210) (fun _ h9 => h9) rfl dX10_booth_62 ?_
          refine lv_iload_n hx hb dX10_booth_65 rfl (lv_at hl 3 rfl) ?_
          refine m_iast hx hb hK hP hD hS 3 2 rfl rfl 0 rfl (by decide) (by decide) dX10_booth_66 (fun g_8 H locs eg_8 hP hD hS => ?_)
          have hP : va_P D vwCl [(h0, .inr (9, [.ref m_tape, .int 0, .int 0, .ref m_rule, .ref m_rules, .int 0, .ref m_stair, .int 0, .int 0, .int ((-1)), .int 5, .int 5, .ref m_low, .ref m_high, .ref m_crack, .int 0, .ref m_weight, .ref m_fire, .ref m_crowd, .ref m_state, .ref m_where, .int 0, .int 0, .int 0, .ref m_words, .int 0, .int 0, .int 0, .int 0, .int 0, .int 0, .ref m_told, .ref m_breaks, .ref m_row, .ref m_tried, .ref m_steps, .ref m_paths])), (m_weight, .inl (y_weight, 10, .inl g_6)), (m_fire, .inl (y_fire, 10, .inl g_7)), (m_crowd, .inl (y_crowd, 10, .inl g_8)), (m_state, .inl (y_state, 10, .inl f_state))] H := hP
          have hD : va_D A [(h0, .inr (9, [.ref m_tape, .int 0, .int 0, .ref m_rule, .ref m_rules, .int 0, .ref m_stair, .int 0, .int 0, .int ((-1)), .int 5, .int 5, .ref m_low, .ref m_high, .ref m_crack, .int 0, .ref m_weight, .ref m_fire, .ref m_crowd, .ref m_state, .ref m_where, .int 0, .int 0, .int 0, .ref m_words, .int 0, .int 0, .int 0, .int 0, .int 0, .int 0, .ref m_told, .ref m_breaks, .ref m_row, .ref m_tried, .ref m_steps, .ref m_paths])), (m_weight, .inl (y_weight, 10, .inl g_6)), (m_fire, .inl (y_fire, 10, .inl g_7)), (m_crowd, .inl (y_crowd, 10, .inl g_8)), (m_state, .inl (y_state, 10, .inl f_state))] := hD
          refine lv_aload_n hx hb dX10_booth_67 rfl (lv_at hl 0 rfl) ?_
          refine va_get (D := D) (ci := 9) (v := .ref m_state) (C := RX10) (T := TX10) (N := 37) hx hb hts inG_X10 hown hK hP 0 rfl rfl 19 (by decide) (hts _ kw_4_214) (fun _ h9 => h9) rfl dX10_booth_68 ?_
          refine lv_aload_n hx hb dX10_booth_71 rfl (lv_at hl 0 rfl) ?_
          refine va_get (D := D) (ci := 9) (v := .int 0) (C := RX10) (T := TX10) (N := 37) hx hb hts inG_X10 hown hK hP 0 rfl rfl 15 (by decide) (hts _ kw_4_210) (fun _ h9 => h9) rfl dX10_booth_72 ?_
          refine lv_iconst (v := 0) hx hb dX10_booth_75 (by decide) ?_
          refine m_iast hx hb hK hP hD hS 4 3 rfl rfl 0 rfl (by decide) (by decide) dX10_booth_76 (fun g_9 H locs eg_9 hP hD hS => ?_)
          have hP : va_P D vwCl [(h0, .inr (9, [.ref m_tape, .int 0, .int 0, .ref m_rule, .ref m_rules, .int 0, .ref m_stair, .int 0, .int 0, .int ((-1)), .int 5, .int 5, .ref m_low, .ref m_high, .ref m_crack, .int 0, .ref m_weight, .ref m_fire, .ref m_crowd, .ref m_state, .ref m_where, .int 0, .int 0, .int 0, .ref m_words, .int 0, .int 0, .int 0, .int 0, .int 0, .int 0, .ref m_told, .ref m_breaks, .ref m_row, .ref m_tried, .ref m_steps, .ref m_paths])), (m_weight, .inl (y_weight, 10, .inl g_6)), (m_fire, .inl (y_fire, 10, .inl g_7)), (m_crowd, .inl (y_crowd, 10, .inl g_8)), (m_state, .inl (y_state, 10, .inl g_9))] H := hP
          have hD : va_D A [(h0, .inr (9, [.ref m_tape, .int 0, .int 0, .ref m_rule, .ref m_rules, .int 0, .ref m_stair, .int 0, .int 0, .int ((-1)), .int 5, .int 5, .ref m_low, .ref m_high, .ref m_crack, .int 0, .ref m_weight, .ref m_fire, .ref m_crowd, .ref m_state, .ref m_where, .int 0, .int 0, .int 0, .ref m_words, .int 0, .int 0, .int 0, .int 0, .int 0, .int 0, .ref m_told, .ref m_breaks, .ref m_row, .ref m_tried, .ref m_steps, .ref m_paths])), (m_weight, .inl (y_weight, 10, .inl g_6)), (m_fire, .inl (y_fire, 10, .inl g_7)), (m_crowd, .inl (y_crowd, 10, .inl g_8)), (m_state, .inl (y_state, 10, .inl g_9))] := hD
          refine lv_aload_n hx hb dX10_booth_77 rfl (lv_at hl 0 rfl) ?_
          refine lv_dup hx hb dX10_booth_78 rfl ?_
          refine va_get (D := D) (ci := 9) (v := .int 0) (C := RX10) (T := TX10) (N := 37) hx hb hts inG_X10 hown hK hP 0 rfl rfl 15 (by decide) (hts _ kw_4_210) (fun _ h9 => h9) rfl dX10_booth_79 ?_
          refine lv_iconst (v := 1) hx hb dX10_booth_82 (by decide) ?_
          refine lv_iadd hx hb dX10_booth_83 ?_
          refine lv_topi (fun z_10 ez_10 => ?_)
          obtain rfl : z_10 = (1 : Int32) := ez_10.trans (by decide)
          refine va_put (D := D) (ci := 9) (v := .int 1) (ty := .int) (C := RX10) (T := TX10) (N := 37) hx hb hts inG_X10 tyX10 tyX10_ok nmX10 hown hK hP hD hS 0 rfl rfl 15 (by decide) (hts _ kw_4_210) (fun _ h9 => h9) rfl (by decide +kernel) rfl rfl (Nat.le_of_ble_eq_true rfl) dX10_booth_84 (fun H locs hP hD hS => ?_)
          have hP : va_P D vwCl [(h0, .inr (9, [.ref m_tape, .int 0, .int 0, .ref m_rule, .ref m_rules, .int 0, .ref m_stair, .int 0, .int 0, .int ((-1)), .int 5, .int 5, .ref m_low, .ref m_high, .ref m_crack, .int 1, .ref m_weight, .ref m_fire, .ref m_crowd, .ref m_state, .ref m_where, .int 0, .int 0, .int 0, .ref m_words, .int 0, .int 0, .int 0, .int 0, .int 0, .int 0, .ref m_told, .ref m_breaks, .ref m_row, .ref m_tried, .ref m_steps, .ref m_paths])), (m_weight, .inl (y_weight, 10, .inl g_6)), (m_fire, .inl (y_fire, 10, .inl g_7)), (m_crowd, .inl (y_crowd, 10, .inl g_8)), (m_state, .inl (y_state, 10, .inl g_9))] H := hP
          have hD : va_D A [(h0, .inr (9, [.ref m_tape, .int 0, .int 0, .ref m_rule, .ref m_rules, .int 0, .ref m_stair, .int 0, .int 0, .int ((-1)), .int 5, .int 5, .ref m_low, .ref m_high, .ref m_crack, .int 1, .ref m_weight, .ref m_fire, .ref m_crowd, .ref m_state, .ref m_where, .int 0, .int 0, .int 0, .ref m_words, .int 0, .int 0, .int 0, .int 0, .int 0, .int 0, .ref m_told, .ref m_breaks, .ref m_row, .ref m_tried, .ref m_steps, .ref m_paths])), (m_weight, .inl (y_weight, 10, .inl g_6)), (m_fire, .inl (y_fire, 10, .inl g_7)), (m_crowd, .inl (y_crowd, 10, .inl g_8)), (m_state, .inl (y_state, 10, .inl g_9))] := hD
          refine lv_aload_n hx hb dX10_booth_87 rfl (lv_at hl 0 rfl) ?_
          refine va_get (D := D) (ci := 9) (v := .int 1) (C := RX10) (T := TX10) (N := 37) hx hb hts inG_X10 hown hK hP 0 rfl rfl 15 (by decide) (hts _ kw_4_210) (fun _ h9 => h9) rfl dX10_booth_88 ?_
          refine lv_iconst (v := 1) hx hb dX10_booth_91 (by decide) ?_
          refine lv_isub hx hb dX10_booth_92 ?_
          refine lv_topi (fun z_11 ez_11 => ?_)
          obtain rfl : z_11 = (0 : Int32) := ez_11.trans (by decide)
          have hP9 := hP.sub (ws' := []) [] rfl
          have hD9 := hD.sub (ws' := []) [] (by decide) rfl
          have hK9 := hK.sub (tys' := []) [] rfl
          refine W.widen (k := 0) (n := 0) (by decide) (by decide) ?_
          exact W.iret (v := 0) hx hb hr (fun t ht hW => ⟨⟨0, (), rfl, by simp only [c_2, c_3, c_4, c_5, or_false, false_or, or_true, true_or, not_true_eq_false, not_false_eq_true, ↓reduceIte], by rw [ht]; exact hP9, va_K.moved hW.alike hK9, hD9⟩, hS.F ht⟩) hS.2.2 dX10_booth_93
        · skip
          have c_5 := Int32.not_le.mp c_5
          refine lv_iconst (v := -1) hx hb dX10_booth_35 (by decide) ?_
          have hP9 := hP.sub (ws' := []) [] rfl
          have hD9 := hD.sub (ws' := []) [] (by decide) rfl
          have hK9 := hK.sub (tys' := []) [] rfl
          refine W.widen (k := 0) (n := 0) (by decide) (by decide) ?_
          exact W.iret (v := (-1)) hx hb hr (fun t ht hW => ⟨⟨((-1)), (), rfl, by simp only [c_2, c_3, c_4, c_5, or_false, false_or, or_true, true_or, not_true_eq_false, not_false_eq_true, ↓reduceIte], by rw [ht]; exact hP9, va_K.moved hW.alike hK9, hD9⟩, hS.F ht⟩) hS.2.2 dX10_booth_36
theorem dX10_set_0 : decode cX10_set 0 = .ok (.aload_n 0, 1) := by decide +kernel
theorem dX10_set_1 : decode cX10_set 1 = .ok (.iconst 0, 1) := by decide +kernel
theorem dX10_set_2 : decode cX10_set 2 = .ok (.putfield 78, 3) := by decide +kernel
theorem dX10_set_5 : decode cX10_set 5 = .ok (.aload_n 0, 1) := by decide +kernel
theorem dX10_set_6 : decode cX10_set 6 = .ok (.iload_n 1, 1) := by decide +kernel
theorem dX10_set_7 : decode cX10_set 7 = .ok (.iconst 0, 1) := by decide +kernel
theorem kw_5_143 : Cond.methodLink RX10 171 yX10_isBooth ∈ gw := gw_t5 (List.mem_of_getElem? (i := 143) (by decide +kernel)) (by decide +kernel)
theorem kw_5_145 : Cond.instanceMethod yX10_isBooth ∈ gw := gw_t5 (List.mem_of_getElem? (i := 145) (by decide +kernel)) (by decide +kernel)
theorem ks_3_12 : Cond.selects RX10 yX10_isBooth yX10_isBooth ∈ gw := gw_s (y := yX10_isBooth) (n := 37) (List.mem_append_right _ (List.mem_append_right _ (List.mem_append_left _ (List.mem_of_getElem? (i := 12) (by decide +kernel)))))
theorem kw_5_146 : Cond.code yX10_isBooth cX10_isBooth 3 (some .boolean) ∈ gw := gw_t5 (List.mem_of_getElem? (i := 146) (by decide +kernel)) (by decide +kernel)
theorem gk_X10_171 : GoodIn gw (wsV RX10 171 RX10 yX10_isBooth (.code yX10_isBooth cX10_isBooth 3 (some .boolean) :: gw)) ∧ (yX10_isBooth.cls = RX10 ∧ yX10_isBooth.cls ≠ "java/lang/invoke/MethodHandle" ∧ yX10_isBooth.cls ≠ "java/lang/invoke/VarHandle" ∧ (parseMethodDescriptor yX10_isBooth.desc).map (fun d => d.parameters.length) = some 2) := ⟨gi_V kw_5_143 kw_5_145 ks_3_12 kw_1_11 kw_5_146, by decide +kernel⟩
theorem dX10_set_8 : decode cX10_set 8 = .ok (.invokevirtual 171, 3) := by decide +kernel
theorem dX10_set_11 : decode cX10_set 11 = .ok (.ifCond .eq 52, 3) := by decide +kernel
theorem dX10_set_63 : decode cX10_set 63 = .ok (.iconst (-1), 1) := by decide +kernel
theorem dX10_set_64 : decode cX10_set 64 = .ok (.ireturn, 1) := by decide +kernel
set_option maxHeartbeats 4000000 in
set_option maxRecDepth 100000 in
theorem m_set (l : Launch) (D : va_G) (h0 : Nat) (m_tape : Nat) (m_rule : Nat) (m_rules : Nat) (m_stair : Nat) (m_low : Nat) (m_high : Nat) (m_crack : Nat) (m_weight : Nat) (m_fire : Nat) (m_crowd : Nat) (m_state : Nat) (m_where : Nat) (m_words : Nat) (m_told : Nat) (m_breaks : Nat) (m_row : Nat) (m_tried : Nat) (m_steps : Nat) (m_paths : Nat) (x1 : Int32) (x2 : Int32) (x3 : Int32) : cI l yX10_set (.code yX10_set cX10_set 4 (some .int)) ({ frames := 3, cells := 0, slots := 0, locals := 71 }) D [] [(h0, .inr (9, [.ref m_tape, .int 0, .int 0, .ref m_rule, .ref m_rules, .int 0, .ref m_stair, .int 0, .int 0, .int ((-1)), .int 5, .int 5, .ref m_low, .ref m_high, .ref m_crack, .int 0, .ref m_weight, .ref m_fire, .ref m_crowd, .ref m_state, .ref m_where, .int 0, .int 0, .int 0, .ref m_words, .int 0, .int 0, .int 0, .int 0, .int 0, .int 0, .ref m_told, .ref m_breaks, .ref m_row, .ref m_tried, .ref m_steps, .ref m_paths]))] xT [.ref h0, .int x1, .int x2, .int x3] (S := Unit) (fun r _ => r = (-1)) (fun _ => []) (fun _ => []) := by
  intro sz
  refine Met.ofW (cc := cX10_set) (maxL := 4) (ret := (some .int)) (by decide) rfl ?_
  intro p e s m args below meth c s₁ B hml hv
  obtain ⟨rfl, hsz, hP, hK, hD0, hX⟩ := hv
  have hx := B.exec
  have hb := B.bytes
  have hr := B.returns
  have hts0 := atoms_spec (ws := .code yX10_set cX10_set 4 (some .int) :: gw) B.pre
  have hts := fun (w : Cond) (h : w ∈ gw) => hts0 w (List.mem_cons_of_mem _ h)
  have hown : s.vm.findClass RX10 = some m.cls := findClass_of_methodNamed B.named
  have hlocks := B.notSynchronized
  have F : mFix p s m _ c cX10_set 4 RX10 := ⟨hx, hb, hml, hown, hts⟩
  subst hsz
  have hD := hD0.self (sz := s.heap.size)
  generalize hAe : va_A [(h0, .inr (9, [.ref m_tape, .int 0, .int 0, .ref m_rule, .ref m_rules, .int 0, .ref m_stair, .int 0, .int 0, .int ((-1)), .int 5, .int 5, .ref m_low, .ref m_high, .ref m_crack, .int 0, .ref m_weight, .ref m_fire, .ref m_crowd, .ref m_state, .ref m_where, .int 0, .int 0, .int 0, .ref m_words, .int 0, .int 0, .int 0, .int 0, .int 0, .int 0, .ref m_told, .ref m_breaks, .ref m_row, .ref m_tried, .ref m_steps, .ref m_paths]))] s.heap.size = A at hD hX ⊢
  have hA : ∀ q : Nat, s.heap.size ≤ q → A q := fun q h => by rw [← hAe]; exact Or.inr h
  have hS : va_S A s.heap s.heap [] := va_S.rf
  have hl := lv_entry ([.ref h0, .int x1, .int x2, .int x3]) (n := 4) (Nat.le_of_ble_eq_true rfl)
  rw [lg_entry_eq]
  generalize (lg_sl ([.ref h0, .int x1, .int x2, .int x3]) ++ List.replicate (4 - (lg_sl ([.ref h0, .int x1, .int x2, .int x3])).length) Slot.unset).toArray = ls at hl ⊢
  have hl : lv_has ls 4 [(0, .ref h0), (1, .int x1), (2, .int x2), (3, .int x3)] := hl
  have hP : va_P D vwCl [(h0, .inr (9, [.ref m_tape, .int 0, .int 0, .ref m_rule, .ref m_rules, .int 0, .ref m_stair, .int 0, .int 0, .int ((-1)), .int 5, .int 5, .ref m_low, .ref m_high, .ref m_crack, .int 0, .ref m_weight, .ref m_fire, .ref m_crowd, .ref m_state, .ref m_where, .int 0, .int 0, .int 0, .ref m_words, .int 0, .int 0, .int 0, .int 0, .int 0, .int 0, .ref m_told, .ref m_breaks, .ref m_row, .ref m_tried, .ref m_steps, .ref m_paths]))] s.heap := hP
  refine lv_aload_n hx hb dX10_set_0 rfl (lv_at hl 0 rfl) ?_
  refine lv_iconst (v := 0) hx hb dX10_set_1 (by decide) ?_
  refine va_put (D := D) (ci := 9) (v := .int 0) (ty := .int) (C := RX10) (T := TX10) (N := 37) hx hb hts inG_X10 tyX10 tyX10_ok nmX10 hown hK hP hD hS 0 rfl rfl 2 (by decide) (hts _ kw_4_197) (fun _ h9 => h9) rfl (by decide +kernel) rfl rfl (Nat.le_of_ble_eq_true rfl) dX10_set_2 (fun H locs hP hD hS => ?_)
  have hP : va_P D vwCl [(h0, .inr (9, [.ref m_tape, .int 0, .int 0, .ref m_rule, .ref m_rules, .int 0, .ref m_stair, .int 0, .int 0, .int ((-1)), .int 5, .int 5, .ref m_low, .ref m_high, .ref m_crack, .int 0, .ref m_weight, .ref m_fire, .ref m_crowd, .ref m_state, .ref m_where, .int 0, .int 0, .int 0, .ref m_words, .int 0, .int 0, .int 0, .int 0, .int 0, .int 0, .ref m_told, .ref m_breaks, .ref m_row, .ref m_tried, .ref m_steps, .ref m_paths]))] H := hP
  have hD : va_D A [(h0, .inr (9, [.ref m_tape, .int 0, .int 0, .ref m_rule, .ref m_rules, .int 0, .ref m_stair, .int 0, .int 0, .int ((-1)), .int 5, .int 5, .ref m_low, .ref m_high, .ref m_crack, .int 0, .ref m_weight, .ref m_fire, .ref m_crowd, .ref m_state, .ref m_where, .int 0, .int 0, .int 0, .ref m_words, .int 0, .int 0, .int 0, .int 0, .int 0, .int 0, .ref m_told, .ref m_breaks, .ref m_row, .ref m_tried, .ref m_steps, .ref m_paths]))] := hD
  refine lv_aload_n hx hb dX10_set_5 rfl (lv_at hl 0 rfl) ?_
  refine lv_iload_n hx hb dX10_set_6 rfl (lv_at hl 1 rfl) ?_
  refine lv_iconst (v := 0) hx hb dX10_set_7 (by decide) ?_
  refine mc_Vi (rest := []) (wr := []) F hK hP hD hS hA (m_isBooth0 l D h0 m_tape m_rule m_rules m_stair m_low m_high m_crack m_weight m_fire m_crowd m_state m_where m_words m_told m_breaks m_row m_tried m_steps m_paths 0 0 0 0 0 ((-1)) 5 5 0 0 0 0 0 0 0 0 0 x1 0 ) ⟨gk_X10_171.1, gk_X10_171.2, Nat.le_of_ble_eq_true rfl, Nat.le_of_ble_eq_true rfl⟩ [0] [] [] ⟨rfl, rfl, rfl, rfl, by decide⟩ rfl xT_move (fun _ _ _ => trivial) 0 rfl rfl rfl hl.1 rfl (Nat.le_of_ble_eq_true rfl) dX10_set_8 ⟨Nat.le_of_ble_eq_true rfl, Nat.le_of_ble_eq_true rfl⟩ (fun r_1 _ H locs hw hK1 hP hD hS => ?_)
  have hP : va_P D vwCl [(h0, .inr (9, [.ref m_tape, .int 0, .int 0, .ref m_rule, .ref m_rules, .int 0, .ref m_stair, .int 0, .int 0, .int (((-1))), .int 5, .int 5, .ref m_low, .ref m_high, .ref m_crack, .int 0, .ref m_weight, .ref m_fire, .ref m_crowd, .ref m_state, .ref m_where, .int 0, .int 0, .int 0, .ref m_words, .int 0, .int 0, .int 0, .int 0, .int 0, .int 0, .ref m_told, .ref m_breaks, .ref m_row, .ref m_tried, .ref m_steps, .ref m_paths]))] H := hP
  have hD : va_D A [(h0, .inr (9, [.ref m_tape, .int 0, .int 0, .ref m_rule, .ref m_rules, .int 0, .ref m_stair, .int 0, .int 0, .int (((-1))), .int 5, .int 5, .ref m_low, .ref m_high, .ref m_crack, .int 0, .ref m_weight, .ref m_fire, .ref m_crowd, .ref m_state, .ref m_where, .int 0, .int 0, .int 0, .ref m_words, .int 0, .int 0, .int 0, .int 0, .int 0, .int 0, .ref m_told, .ref m_breaks, .ref m_row, .ref m_tried, .ref m_steps, .ref m_paths]))] := hD
  have hw_2 : r_1 = 0 := hw
  obtain rfl : r_1 = 0 := hw_2
  refine lv_if_eq (tgt := 63) hx hb dX10_set_11 (by decide) (fun c_3 => ?_) (fun c_3 => absurd c_3 (by decide))
  refine lv_iconst (v := -1) hx hb dX10_set_63 (by decide) ?_
  have hP9 := hP.sub (ws' := []) [] rfl
  have hD9 := hD.sub (ws' := []) [] (by decide) rfl
  have hK9 := hK.sub (tys' := []) [] rfl
  refine W.widen (k := 0) (n := 0) (by decide) (by decide) ?_
  exact W.iret (v := (-1)) hx hb hr (fun t ht hW => ⟨⟨((-1)), (), rfl, rfl, by rw [ht]; exact hP9, va_K.moved hW.alike hK9, hD9⟩, hS.F ht⟩) hS.2.2 dX10_set_64
theorem dX10_clear_0 : decode cX10_clear 0 = .ok (.aload_n 0, 1) := by decide +kernel
theorem dX10_clear_1 : decode cX10_clear 1 = .ok (.iconst 0, 1) := by decide +kernel
theorem dX10_clear_2 : decode cX10_clear 2 = .ok (.putfield 78, 3) := by decide +kernel
theorem dX10_clear_5 : decode cX10_clear 5 = .ok (.aload_n 0, 1) := by decide +kernel
theorem dX10_clear_6 : decode cX10_clear 6 = .ok (.iload_n 1, 1) := by decide +kernel
theorem dX10_clear_7 : decode cX10_clear 7 = .ok (.iconst 1, 1) := by decide +kernel
theorem dX10_clear_8 : decode cX10_clear 8 = .ok (.invokevirtual 171, 3) := by decide +kernel
theorem dX10_clear_11 : decode cX10_clear 11 = .ok (.ifCond .ne 5, 3) := by decide +kernel
theorem dX10_clear_14 : decode cX10_clear 14 = .ok (.iconst 0, 1) := by decide +kernel
theorem dX10_clear_15 : decode cX10_clear 15 = .ok (.ireturn, 1) := by decide +kernel
set_option maxHeartbeats 4000000 in
set_option maxRecDepth 100000 in
theorem m_clear (l : Launch) (D : va_G) (h0 : Nat) (m_tape : Nat) (m_rule : Nat) (m_rules : Nat) (m_stair : Nat) (m_low : Nat) (m_high : Nat) (m_crack : Nat) (m_weight : Nat) (m_fire : Nat) (m_crowd : Nat) (m_state : Nat) (m_where : Nat) (m_words : Nat) (m_told : Nat) (m_breaks : Nat) (m_row : Nat) (m_tried : Nat) (m_steps : Nat) (m_paths : Nat) (x1 : Int32) : cI l yX10_clear (.code yX10_clear cX10_clear 2 (some .boolean)) ({ frames := 1, cells := 0, slots := 0, locals := 22 }) D [] [(h0, .inr (9, [.ref m_tape, .int 0, .int 0, .ref m_rule, .ref m_rules, .int 0, .ref m_stair, .int 0, .int 0, .int ((-1)), .int 5, .int 5, .ref m_low, .ref m_high, .ref m_crack, .int 0, .ref m_weight, .ref m_fire, .ref m_crowd, .ref m_state, .ref m_where, .int 0, .int 0, .int 0, .ref m_words, .int 0, .int 0, .int 0, .int 0, .int 0, .int 0, .ref m_told, .ref m_breaks, .ref m_row, .ref m_tried, .ref m_steps, .ref m_paths]))] xT [.ref h0, .int x1] (S := Unit) (fun r _ => r = 0) (fun _ => []) (fun _ => []) := by
  intro sz
  refine Met.ofW (cc := cX10_clear) (maxL := 2) (ret := (some .boolean)) (by decide) rfl ?_
  intro p e s m args below meth c s₁ B hml hv
  obtain ⟨rfl, hsz, hP, hK, hD0, hX⟩ := hv
  have hx := B.exec
  have hb := B.bytes
  have hr := B.returns
  have hts0 := atoms_spec (ws := .code yX10_clear cX10_clear 2 (some .boolean) :: gw) B.pre
  have hts := fun (w : Cond) (h : w ∈ gw) => hts0 w (List.mem_cons_of_mem _ h)
  have hown : s.vm.findClass RX10 = some m.cls := findClass_of_methodNamed B.named
  have hlocks := B.notSynchronized
  have F : mFix p s m _ c cX10_clear 2 RX10 := ⟨hx, hb, hml, hown, hts⟩
  subst hsz
  have hD := hD0.self (sz := s.heap.size)
  generalize hAe : va_A [(h0, .inr (9, [.ref m_tape, .int 0, .int 0, .ref m_rule, .ref m_rules, .int 0, .ref m_stair, .int 0, .int 0, .int ((-1)), .int 5, .int 5, .ref m_low, .ref m_high, .ref m_crack, .int 0, .ref m_weight, .ref m_fire, .ref m_crowd, .ref m_state, .ref m_where, .int 0, .int 0, .int 0, .ref m_words, .int 0, .int 0, .int 0, .int 0, .int 0, .int 0, .ref m_told, .ref m_breaks, .ref m_row, .ref m_tried, .ref m_steps, .ref m_paths]))] s.heap.size = A at hD hX ⊢
  have hA : ∀ q : Nat, s.heap.size ≤ q → A q := fun q h => by rw [← hAe]; exact Or.inr h
  have hS : va_S A s.heap s.heap [] := va_S.rf
  have hl := lv_entry ([.ref h0, .int x1]) (n := 2) (Nat.le_of_ble_eq_true rfl)
  rw [lg_entry_eq]
  generalize (lg_sl ([.ref h0, .int x1]) ++ List.replicate (2 - (lg_sl ([.ref h0, .int x1])).length) Slot.unset).toArray = ls at hl ⊢
  have hl : lv_has ls 2 [(0, .ref h0), (1, .int x1)] := hl
  have hP : va_P D vwCl [(h0, .inr (9, [.ref m_tape, .int 0, .int 0, .ref m_rule, .ref m_rules, .int 0, .ref m_stair, .int 0, .int 0, .int ((-1)), .int 5, .int 5, .ref m_low, .ref m_high, .ref m_crack, .int 0, .ref m_weight, .ref m_fire, .ref m_crowd, .ref m_state, .ref m_where, .int 0, .int 0, .int 0, .ref m_words, .int 0, .int 0, .int 0, .int 0, .int 0, .int 0, .ref m_told, .ref m_breaks, .ref m_row, .ref m_tried, .ref m_steps, .ref m_paths]))] s.heap := hP
  refine lv_aload_n hx hb dX10_clear_0 rfl (lv_at hl 0 rfl) ?_
  refine lv_iconst (v := 0) hx hb dX10_clear_1 (by decide) ?_
  refine va_put (D := D) (ci := 9) (v := .int 0) (ty := .int) (C := RX10) (T := TX10) (N := 37) hx hb hts inG_X10 tyX10 tyX10_ok nmX10 hown hK hP hD hS 0 rfl rfl 2 (by decide) (hts _ kw_4_197) (fun _ h9 => h9) rfl (by decide +kernel) rfl rfl (Nat.le_of_ble_eq_true rfl) dX10_clear_2 (fun H locs hP hD hS => ?_)
  have hP : va_P D vwCl [(h0, .inr (9, [.ref m_tape, .int 0, .int 0, .ref m_rule, .ref m_rules, .int 0, .ref m_stair, .int 0, .int 0, .int ((-1)), .int 5, .int 5, .ref m_low, .ref m_high, .ref m_crack, .int 0, .ref m_weight, .ref m_fire, .ref m_crowd, .ref m_state, .ref m_where, .int 0, .int 0, .int 0, .ref m_words, .int 0, .int 0, .int 0, .int 0, .int 0, .int 0, .ref m_told, .ref m_breaks, .ref m_row, .ref m_tried, .ref m_steps, .ref m_paths]))] H := hP
  have hD : va_D A [(h0, .inr (9, [.ref m_tape, .int 0, .int 0, .ref m_rule, .ref m_rules, .int 0, .ref m_stair, .int 0, .int 0, .int ((-1)), .int 5, .int 5, .ref m_low, .ref m_high, .ref m_crack, .int 0, .ref m_weight, .ref m_fire, .ref m_crowd, .ref m_state, .ref m_where, .int 0, .int 0, .int 0, .ref m_words, .int 0, .int 0, .int 0, .int 0, .int 0, .int 0, .ref m_told, .ref m_breaks, .ref m_row, .ref m_tried, .ref m_steps, .ref m_paths]))] := hD
  refine lv_aload_n hx hb dX10_clear_5 rfl (lv_at hl 0 rfl) ?_
  refine lv_iload_n hx hb dX10_clear_6 rfl (lv_at hl 1 rfl) ?_
  refine lv_iconst (v := 1) hx hb dX10_clear_7 (by decide) ?_
  refine mc_Vi (rest := []) (wr := []) F hK hP hD hS hA (m_isBooth0 l D h0 m_tape m_rule m_rules m_stair m_low m_high m_crack m_weight m_fire m_crowd m_state m_where m_words m_told m_breaks m_row m_tried m_steps m_paths 0 0 0 0 0 ((-1)) 5 5 0 0 0 0 0 0 0 0 0 x1 1 ) ⟨gk_X10_171.1, gk_X10_171.2, Nat.le_of_ble_eq_true rfl, Nat.le_of_ble_eq_true rfl⟩ [0] [] [] ⟨rfl, rfl, rfl, rfl, by decide⟩ rfl xT_move (fun _ _ _ => trivial) 0 rfl rfl rfl hl.1 rfl (Nat.le_of_ble_eq_true rfl) dX10_clear_8 ⟨Nat.le_of_ble_eq_true rfl, Nat.le_of_ble_eq_true rfl⟩ (fun r_1 _ H locs hw hK1 hP hD hS => ?_)
  have hP : va_P D vwCl [(h0, .inr (9, [.ref m_tape, .int 0, .int 0, .ref m_rule, .ref m_rules, .int 0, .ref m_stair, .int 0, .int 0, .int (((-1))), .int 5, .int 5, .ref m_low, .ref m_high, .ref m_crack, .int 0, .ref m_weight, .ref m_fire, .ref m_crowd, .ref m_state, .ref m_where, .int 0, .int 0, .int 0, .ref m_words, .int 0, .int 0, .int 0, .int 0, .int 0, .int 0, .ref m_told, .ref m_breaks, .ref m_row, .ref m_tried, .ref m_steps, .ref m_paths]))] H := hP
  have hD : va_D A [(h0, .inr (9, [.ref m_tape, .int 0, .int 0, .ref m_rule, .ref m_rules, .int 0, .ref m_stair, .int 0, .int 0, .int (((-1))), .int 5, .int 5, .ref m_low, .ref m_high, .ref m_crack, .int 0, .ref m_weight, .ref m_fire, .ref m_crowd, .ref m_state, .ref m_where, .int 0, .int 0, .int 0, .ref m_words, .int 0, .int 0, .int 0, .int 0, .int 0, .int 0, .ref m_told, .ref m_breaks, .ref m_row, .ref m_tried, .ref m_steps, .ref m_paths]))] := hD
  have hw_2 : r_1 = 0 := hw
  obtain rfl : r_1 = 0 := hw_2
  refine lv_if_ne (tgt := 16) hx hb dX10_clear_11 (by decide) (fun c_3 => absurd c_3 (by decide)) (fun c_3 => ?_)
  refine lv_iconst (v := 0) hx hb dX10_clear_14 (by decide) ?_
  have hP9 := hP.sub (ws' := []) [] rfl
  have hD9 := hD.sub (ws' := []) [] (by decide) rfl
  have hK9 := hK.sub (tys' := []) [] rfl
  refine W.widen (k := 0) (n := 0) (by decide) (by decide) ?_
  exact W.zret (v := 0) hx hb hr rfl (fun t ht hW => ⟨⟨0, (), rfl, rfl, by rw [ht]; exact hP9, va_K.moved hW.alike hK9, hD9⟩, hS.F ht⟩) hS.2.2 dX10_clear_15
