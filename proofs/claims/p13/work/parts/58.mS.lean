set_option maxHeartbeats 4000000 in
set_option maxRecDepth 100000 in
theorem n_isStair (l : Launch) (D : va_G) (h0 : Nat) (m_tape : Nat) (ln : Nat) (s_thrown : Int32) (m_rule : Nat) (m_rules : Nat) (sn : Nat) (m_stair : Nat) (s_readStairs : Int32) (s_fault : Int32) (s_faultPlace : Int32) (w : Nat) (h : Nat) (m_low : Nat) (m_high : Nat) (m_crack : Nat) (bc : Nat) (m_weight : Nat) (m_fire : Nat) (m_crowd : Nat) (m_state : Nat) (m_where : Nat) (s_hours : Int32) (s_fees : Int32) (s_looks : Int32) (m_words : Nat) (s_end : Int32) (s_next : Int32) (s_kind : Int32) (s_which : Int32) (s_place : Int32) (s_read : Int32) (m_told : Nat) (m_breaks : Nat) (m_row : Nat) (m_tried : Nat) (m_steps : Nat) (m_paths : Nat) (y_stair : ClassId) (f_stair : Nat → Int32) (y_low : ClassId) (f_low : Nat → Int32) (y_crack : ClassId) (f_crack : Nat → Int32) (si : Nat) (hsi : si < 4) (hst : rOK 100 f_stair 24) (h3 : w ≤ 10) (h4 : h ≤ 10) : cI l yX10_isStair (.code yX10_isStair cX10_isStair 2 (some .boolean)) ({ frames := 1, cells := 0, slots := 0, locals := 22 }) D [(y_stair, .int), (y_low, .int), (y_crack, .boolean)] [(h0, Sum.inr (9, [Value.ref m_tape, Value.int (nI ln), Value.int s_thrown, Value.ref m_rule, Value.ref m_rules, Value.int (nI sn), Value.ref m_stair, Value.int s_readStairs, Value.int s_fault, Value.int s_faultPlace, Value.int (nI w), Value.int (nI h), Value.ref m_low, Value.ref m_high, Value.ref m_crack, Value.int (nI bc), Value.ref m_weight, Value.ref m_fire, Value.ref m_crowd, Value.ref m_state, Value.ref m_where, Value.int s_hours, Value.int s_fees, Value.int s_looks, Value.ref m_words, Value.int s_end, Value.int s_next, Value.int s_kind, Value.int s_which, Value.int s_place, Value.int s_read, Value.ref m_told, Value.ref m_breaks, Value.ref m_row, Value.ref m_tried, Value.ref m_steps, Value.ref m_paths])), (m_stair, Sum.inl (y_stair, 24, Sum.inl f_stair)), (m_low, Sum.inl (y_low, 100, Sum.inl f_low)), (m_crack, Sum.inl (y_crack, 100, Sum.inl f_crack))] xT [Value.ref h0, Value.int (nI si)] (S := Unit) (fun r _ => r = 0 ∨ r = 1) (fun _ => []) (fun _ => [(h0, Sum.inr (9, [Value.ref m_tape, Value.int (nI ln), Value.int s_thrown, Value.ref m_rule, Value.ref m_rules, Value.int (nI sn), Value.ref m_stair, Value.int s_readStairs, Value.int s_fault, Value.int s_faultPlace, Value.int (nI w), Value.int (nI h), Value.ref m_low, Value.ref m_high, Value.ref m_crack, Value.int (nI bc), Value.ref m_weight, Value.ref m_fire, Value.ref m_crowd, Value.ref m_state, Value.ref m_where, Value.int s_hours, Value.int s_fees, Value.int s_looks, Value.ref m_words, Value.int s_end, Value.int s_next, Value.int s_kind, Value.int s_which, Value.int s_place, Value.int s_read, Value.ref m_told, Value.ref m_breaks, Value.ref m_row, Value.ref m_tried, Value.ref m_steps, Value.ref m_paths])), (m_stair, Sum.inl (y_stair, 24, Sum.inl f_stair)), (m_low, Sum.inl (y_low, 100, Sum.inl f_low)), (m_crack, Sum.inl (y_crack, 100, Sum.inl f_crack))]) := by
  intro sz
  refine Met.ofW (cc := cX10_isStair) (maxL := 2) (ret := (some .boolean)) (by decide) rfl ?_
  intro p e s m args below meth c s₁ B hml hv
  obtain ⟨rfl, hsz, hP, hK, hD0, hX⟩ := hv
  have hx := B.exec
  have hb := B.bytes
  have hr := B.returns
  have hts0 := atoms_spec (ws := .code yX10_isStair cX10_isStair 2 (some .boolean) :: gw) B.pre
  have hts := fun (w : Cond) (h : w ∈ gw) => hts0 w (List.mem_cons_of_mem _ h)
  have hown : s.vm.findClass RX10 = some m.cls := findClass_of_methodNamed B.named
  have hlocks := B.notSynchronized
  have F : mFix p s m _ c cX10_isStair 2 RX10 := ⟨hx, hb, hml, hown, hts⟩
  subst hsz
  have hD := hD0.self (sz := s.heap.size)
  generalize hAe : va_A [(h0, Sum.inr (9, [Value.ref m_tape, Value.int (nI ln), Value.int s_thrown, Value.ref m_rule, Value.ref m_rules, Value.int (nI sn), Value.ref m_stair, Value.int s_readStairs, Value.int s_fault, Value.int s_faultPlace, Value.int (nI w), Value.int (nI h), Value.ref m_low, Value.ref m_high, Value.ref m_crack, Value.int (nI bc), Value.ref m_weight, Value.ref m_fire, Value.ref m_crowd, Value.ref m_state, Value.ref m_where, Value.int s_hours, Value.int s_fees, Value.int s_looks, Value.ref m_words, Value.int s_end, Value.int s_next, Value.int s_kind, Value.int s_which, Value.int s_place, Value.int s_read, Value.ref m_told, Value.ref m_breaks, Value.ref m_row, Value.ref m_tried, Value.ref m_steps, Value.ref m_paths])), (m_stair, Sum.inl (y_stair, 24, Sum.inl f_stair)), (m_low, Sum.inl (y_low, 100, Sum.inl f_low)), (m_crack, Sum.inl (y_crack, 100, Sum.inl f_crack))] s.heap.size = A at hD hX ⊢
  have hA : ∀ q : Nat, s.heap.size ≤ q → A q := fun q h => by rw [← hAe]; exact Or.inr h
  have hS : va_S A s.heap s.heap [] := va_S.rf
  have hl := lv_entry ([Value.ref h0, Value.int (nI si)]) (n := 2) (Nat.le_of_ble_eq_true rfl)
  rw [lg_entry_eq]
  generalize (lg_sl ([Value.ref h0, Value.int (nI si)]) ++ List.replicate (2 - (lg_sl ([Value.ref h0, Value.int (nI si)])).length) Slot.unset).toArray = ls at hl ⊢
  have hl : lv_has ls 2 [(0, Value.ref h0), (1, Value.int (nI si))] := hl
  have hP : va_P D vwCl [(h0, Sum.inr (9, [Value.ref m_tape, Value.int (nI ln), Value.int s_thrown, Value.ref m_rule, Value.ref m_rules, Value.int (nI sn), Value.ref m_stair, Value.int s_readStairs, Value.int s_fault, Value.int s_faultPlace, Value.int (nI w), Value.int (nI h), Value.ref m_low, Value.ref m_high, Value.ref m_crack, Value.int (nI bc), Value.ref m_weight, Value.ref m_fire, Value.ref m_crowd, Value.ref m_state, Value.ref m_where, Value.int s_hours, Value.int s_fees, Value.int s_looks, Value.ref m_words, Value.int s_end, Value.int s_next, Value.int s_kind, Value.int s_which, Value.int s_place, Value.int s_read, Value.ref m_told, Value.ref m_breaks, Value.ref m_row, Value.ref m_tried, Value.ref m_steps, Value.ref m_paths])), (m_stair, Sum.inl (y_stair, 24, Sum.inl f_stair)), (m_low, Sum.inl (y_low, 100, Sum.inl f_low)), (m_crack, Sum.inl (y_crack, 100, Sum.inl f_crack))] s.heap := hP
  refine lv_aload_n hx hb dX10_isStair_0 rfl (lv_at hl 0 rfl) ?_
  refine lv_aload_n hx hb dX10_isStair_1 rfl (lv_at hl 0 rfl) ?_
  refine va_get (D := D) (ci := 9) (v := Value.ref m_stair) (C := RX10) (T := TX10) (N := 37) hx hb hts inG_X10 hown hK hP 0 rfl rfl 6 (by decide) (hts _ kw_4_201) (fun _ h9 => h9) rfl dX10_isStair_2 ?_
  refine lv_iconst (v := 2) hx hb dX10_isStair_5 (by decide) ?_
  refine lv_iload_n hx hb dX10_isStair_6 rfl (lv_at hl 1 rfl) ?_
  refine lv_imul hx hb dX10_isStair_7 ?_
  refine lv_topi (fun z_1 ez_1 => ?_)
  obtain rfl : z_1 = nI (2 * si) := ez_1.trans (pk_mul 2 si)
  refine m_iald hx hb hK hP 1 0 rfl rfl (2 * si) rfl (by omega) (by decide) dX10_isStair_8 ?_
  refine lv_topi (fun v_2 ev_2 => ?_)
  obtain ⟨q_3, hq_3, Eq_3⟩ := hst (2 * si) (by omega)
  obtain rfl : v_2 = nI q_3 := ev_2.trans Eq_3
  refine lv_bipush (v := 10) hx hb dX10_isStair_9 (by decide) ?_
  refine lv_irem hx hb dX10_isStair_11 (by decide) ?_
  refine lv_topi (fun z_4 ez_4 => ?_)
  obtain rfl : z_4 = nI (q_3 % 10) := ez_4.trans (pk_rem (a := q_3) (d := 10) (by omega) (by decide) (by decide))
  refine lv_aload_n hx hb dX10_isStair_12 rfl (lv_at hl 0 rfl) ?_
  refine va_get (D := D) (ci := 9) (v := Value.ref m_stair) (C := RX10) (T := TX10) (N := 37) hx hb hts inG_X10 hown hK hP 0 rfl rfl 6 (by decide) (hts _ kw_4_201) (fun _ h9 => h9) rfl dX10_isStair_13 ?_
  refine lv_iconst (v := 2) hx hb dX10_isStair_16 (by decide) ?_
  refine lv_iload_n hx hb dX10_isStair_17 rfl (lv_at hl 1 rfl) ?_
  refine lv_imul hx hb dX10_isStair_18 ?_
  refine lv_topi (fun z_5 ez_5 => ?_)
  obtain rfl : z_5 = nI (2 * si) := ez_5.trans (pk_mul 2 si)
  refine m_iald hx hb hK hP 1 0 rfl rfl (2 * si) rfl (by omega) (by decide) dX10_isStair_19 ?_
  refine lv_topi (fun v_6 ev_6 => ?_)
  obtain ⟨q_7, hq_7, Eq_7⟩ := hst (2 * si) (by omega)
  obtain rfl : v_6 = nI q_7 := ev_6.trans Eq_7
  refine lv_bipush (v := 10) hx hb dX10_isStair_20 (by decide) ?_
  refine lv_idiv hx hb dX10_isStair_22 (by decide) ?_
  refine lv_topi (fun z_8 ez_8 => ?_)
  obtain rfl : z_8 = nI (q_7 / 10) := ez_8.trans (pk_div (a := q_7) (d := 10) (by omega) (by decide) (by decide))
  refine mc_Vi (rest := []) (wr := [(m_stair, Sum.inl (y_stair, 24, Sum.inl f_stair)), (m_low, Sum.inl (y_low, 100, Sum.inl f_low)), (m_crack, Sum.inl (y_crack, 100, Sum.inl f_crack))]) F hK hP hD hS hA (n_isCell l D h0 m_tape ln s_thrown m_rule m_rules sn m_stair s_readStairs s_fault s_faultPlace w h m_low m_high m_crack bc m_weight m_fire m_crowd m_state m_where s_hours s_fees s_looks m_words s_end s_next s_kind s_which s_place s_read m_told m_breaks m_row m_tried m_steps m_paths (nI (q_3 % 10)) (nI (q_7 / 10)) (by omega) (by omega)) ⟨gk_X10_155.1, gk_X10_155.2, Nat.le_of_ble_eq_true rfl, Nat.le_of_ble_eq_true rfl⟩ [0] [1, 2, 3] [] ⟨rfl, rfl, rfl, rfl, by decide⟩ rfl xT_move (fun _ _ _ => trivial) 0 rfl rfl rfl hl.1 rfl (Nat.le_of_ble_eq_true rfl) dX10_isStair_23 ⟨Nat.le_of_ble_eq_true rfl, Nat.le_of_ble_eq_true rfl⟩ (fun r_9 _ H locs hw hK1 hP hD hS => ?_)
  have hP : va_P D vwCl [(m_stair, Sum.inl (y_stair, 24, Sum.inl f_stair)), (m_low, Sum.inl (y_low, 100, Sum.inl f_low)), (m_crack, Sum.inl (y_crack, 100, Sum.inl f_crack)), (h0, Sum.inr (9, [Value.ref m_tape, Value.int (nI ln), Value.int s_thrown, Value.ref m_rule, Value.ref m_rules, Value.int (nI sn), Value.ref m_stair, Value.int s_readStairs, Value.int s_fault, Value.int s_faultPlace, Value.int (nI w), Value.int (nI h), Value.ref m_low, Value.ref m_high, Value.ref m_crack, Value.int (nI bc), Value.ref m_weight, Value.ref m_fire, Value.ref m_crowd, Value.ref m_state, Value.ref m_where, Value.int s_hours, Value.int s_fees, Value.int s_looks, Value.ref m_words, Value.int s_end, Value.int s_next, Value.int s_kind, Value.int s_which, Value.int s_place, Value.int s_read, Value.ref m_told, Value.ref m_breaks, Value.ref m_row, Value.ref m_tried, Value.ref m_steps, Value.ref m_paths]))] H := hP
  have hD : va_D A [(m_stair, Sum.inl (y_stair, 24, Sum.inl f_stair)), (m_low, Sum.inl (y_low, 100, Sum.inl f_low)), (m_crack, Sum.inl (y_crack, 100, Sum.inl f_crack)), (h0, Sum.inr (9, [Value.ref m_tape, Value.int (nI ln), Value.int s_thrown, Value.ref m_rule, Value.ref m_rules, Value.int (nI sn), Value.ref m_stair, Value.int s_readStairs, Value.int s_fault, Value.int s_faultPlace, Value.int (nI w), Value.int (nI h), Value.ref m_low, Value.ref m_high, Value.ref m_crack, Value.int (nI bc), Value.ref m_weight, Value.ref m_fire, Value.ref m_crowd, Value.ref m_state, Value.ref m_where, Value.int s_hours, Value.int s_fees, Value.int s_looks, Value.ref m_words, Value.int s_end, Value.int s_next, Value.int s_kind, Value.int s_which, Value.int s_place, Value.int s_read, Value.ref m_told, Value.ref m_breaks, Value.ref m_row, Value.ref m_tried, Value.ref m_steps, Value.ref m_paths]))] := hD
  have hw_10 : r_9 = (if ((nI (q_3 % 10)) < 0 ∨ ¬ (nI (q_3 % 10)) < nI w ∨ (nI (q_7 / 10)) < 0 ∨ ¬ (nI (q_7 / 10)) < nI h) then 0 else 1) := hw
  refine lv_if_eq (tgt := 48) hx hb dX10_isStair_26 (by decide) (fun c_11 => ?_) (fun c_11 => ?_)
  · skip
    refine lv_iconst (v := 0) hx hb dX10_isStair_48 (by decide) ?_
    have hP9 := hP.sub (ws' := [(h0, Sum.inr (9, [Value.ref m_tape, Value.int (nI ln), Value.int s_thrown, Value.ref m_rule, Value.ref m_rules, Value.int (nI sn), Value.ref m_stair, Value.int s_readStairs, Value.int s_fault, Value.int s_faultPlace, Value.int (nI w), Value.int (nI h), Value.ref m_low, Value.ref m_high, Value.ref m_crack, Value.int (nI bc), Value.ref m_weight, Value.ref m_fire, Value.ref m_crowd, Value.ref m_state, Value.ref m_where, Value.int s_hours, Value.int s_fees, Value.int s_looks, Value.ref m_words, Value.int s_end, Value.int s_next, Value.int s_kind, Value.int s_which, Value.int s_place, Value.int s_read, Value.ref m_told, Value.ref m_breaks, Value.ref m_row, Value.ref m_tried, Value.ref m_steps, Value.ref m_paths])), (m_stair, Sum.inl (y_stair, 24, Sum.inl f_stair)), (m_low, Sum.inl (y_low, 100, Sum.inl f_low)), (m_crack, Sum.inl (y_crack, 100, Sum.inl f_crack))]) [3, 0, 1, 2] rfl
    have hD9 := hD.sub (ws' := [(h0, Sum.inr (9, [Value.ref m_tape, Value.int (nI ln), Value.int s_thrown, Value.ref m_rule, Value.ref m_rules, Value.int (nI sn), Value.ref m_stair, Value.int s_readStairs, Value.int s_fault, Value.int s_faultPlace, Value.int (nI w), Value.int (nI h), Value.ref m_low, Value.ref m_high, Value.ref m_crack, Value.int (nI bc), Value.ref m_weight, Value.ref m_fire, Value.ref m_crowd, Value.ref m_state, Value.ref m_where, Value.int s_hours, Value.int s_fees, Value.int s_looks, Value.ref m_words, Value.int s_end, Value.int s_next, Value.int s_kind, Value.int s_which, Value.int s_place, Value.int s_read, Value.ref m_told, Value.ref m_breaks, Value.ref m_row, Value.ref m_tried, Value.ref m_steps, Value.ref m_paths])), (m_stair, Sum.inl (y_stair, 24, Sum.inl f_stair)), (m_low, Sum.inl (y_low, 100, Sum.inl f_low)), (m_crack, Sum.inl (y_crack, 100, Sum.inl f_crack))]) [3, 0, 1, 2] (by decide) rfl
    have hK9 := hK.sub (tys' := []) [] rfl
    refine W.widen (k := 0) (n := 0) (by decide) (by decide) ?_
    exact W.zret (v := 0) hx hb hr rfl (fun t ht hW => ⟨⟨0, (), rfl, Or.inl rfl, by rw [ht]; exact hP9, va_K.moved hW.alike hK9, hD9⟩, hS.F ht⟩) hS.2.2 dX10_isStair_49
  · skip
    refine lv_aload_n hx hb dX10_isStair_29 rfl (lv_at hl 0 rfl) ?_
    refine lv_aload_n hx hb dX10_isStair_30 rfl (lv_at hl 0 rfl) ?_
    refine va_get (D := D) (ci := 9) (v := Value.ref m_stair) (C := RX10) (T := TX10) (N := 37) hx hb hts inG_X10 hown hK hP 3 rfl rfl 6 (by decide) (hts _ kw_4_201) (fun _ h9 => h9) rfl dX10_isStair_31 ?_
    refine lv_iconst (v := 2) hx hb dX10_isStair_34 (by decide) ?_
    refine lv_iload_n hx hb dX10_isStair_35 rfl (lv_at hl 1 rfl) ?_
    refine lv_imul hx hb dX10_isStair_36 ?_
    refine lv_topi (fun z_12 ez_12 => ?_)
    obtain rfl : z_12 = nI (2 * si) := ez_12.trans (pk_mul 2 si)
    refine m_iald hx hb hK hP 0 0 rfl rfl (2 * si) rfl (by omega) (by decide) dX10_isStair_37 ?_
    refine lv_topi (fun v_13 ev_13 => ?_)
    obtain ⟨q_14, hq_14, Eq_14⟩ := hst (2 * si) (by omega)
    obtain rfl : v_13 = nI q_14 := ev_13.trans Eq_14
    refine mc_Vi (rest := []) (wr := [(m_stair, Sum.inl (y_stair, 24, Sum.inl f_stair))]) F hK hP hD hS hA (n_isOpen l D h0 m_tape ln s_thrown m_rule m_rules sn m_stair s_readStairs s_fault s_faultPlace w h m_low m_high m_crack bc m_weight m_fire m_crowd m_state m_where s_hours s_fees s_looks m_words s_end s_next s_kind s_which s_place s_read m_told m_breaks m_row m_tried m_steps m_paths y_low f_low y_crack f_crack q_14 (by omega)) ⟨gk_X10_174.1, gk_X10_174.2, Nat.le_of_ble_eq_true rfl, Nat.le_of_ble_eq_true rfl⟩ [3, 1, 2] [0] [1, 2] ⟨rfl, rfl, rfl, rfl, by decide⟩ rfl xT_move (fun _ _ _ => trivial) 3 rfl rfl rfl hl.1 rfl (Nat.le_of_ble_eq_true rfl) dX10_isStair_38 ⟨Nat.le_of_ble_eq_true rfl, Nat.le_of_ble_eq_true rfl⟩ (fun r_15 _ H locs hw hK1 hP hD hS => ?_)
    have hP : va_P D vwCl [(m_stair, Sum.inl (y_stair, 24, Sum.inl f_stair)), (h0, Sum.inr (9, [Value.ref m_tape, Value.int (nI ln), Value.int s_thrown, Value.ref m_rule, Value.ref m_rules, Value.int (nI sn), Value.ref m_stair, Value.int s_readStairs, Value.int s_fault, Value.int s_faultPlace, Value.int (nI w), Value.int (nI h), Value.ref m_low, Value.ref m_high, Value.ref m_crack, Value.int (nI bc), Value.ref m_weight, Value.ref m_fire, Value.ref m_crowd, Value.ref m_state, Value.ref m_where, Value.int s_hours, Value.int s_fees, Value.int s_looks, Value.ref m_words, Value.int s_end, Value.int s_next, Value.int s_kind, Value.int s_which, Value.int s_place, Value.int s_read, Value.ref m_told, Value.ref m_breaks, Value.ref m_row, Value.ref m_tried, Value.ref m_steps, Value.ref m_paths])), (m_low, Sum.inl (y_low, 100, Sum.inl f_low)), (m_crack, Sum.inl (y_crack, 100, Sum.inl f_crack))] H := hP
    have hD : va_D A [(m_stair, Sum.inl (y_stair, 24, Sum.inl f_stair)), (h0, Sum.inr (9, [Value.ref m_tape, Value.int (nI ln), Value.int s_thrown, Value.ref m_rule, Value.ref m_rules, Value.int (nI sn), Value.ref m_stair, Value.int s_readStairs, Value.int s_fault, Value.int s_faultPlace, Value.int (nI w), Value.int (nI h), Value.ref m_low, Value.ref m_high, Value.ref m_crack, Value.int (nI bc), Value.ref m_weight, Value.ref m_fire, Value.ref m_crowd, Value.ref m_state, Value.ref m_where, Value.int s_hours, Value.int s_fees, Value.int s_looks, Value.ref m_words, Value.int s_end, Value.int s_next, Value.int s_kind, Value.int s_which, Value.int s_place, Value.int s_read, Value.ref m_told, Value.ref m_breaks, Value.ref m_row, Value.ref m_tried, Value.ref m_steps, Value.ref m_paths])), (m_low, Sum.inl (y_low, 100, Sum.inl f_low)), (m_crack, Sum.inl (y_crack, 100, Sum.inl f_crack))] := hD
    have hw_16 : r_15 = 0 ∨ r_15 = 1 := hw
    refine lv_if_eq (tgt := 48) hx hb dX10_isStair_41 (by decide) (fun c_17 => ?_) (fun c_17 => ?_)
    · skip
      refine lv_iconst (v := 0) hx hb dX10_isStair_48 (by decide) ?_
      have hP9 := hP.sub (ws' := [(h0, Sum.inr (9, [Value.ref m_tape, Value.int (nI ln), Value.int s_thrown, Value.ref m_rule, Value.ref m_rules, Value.int (nI sn), Value.ref m_stair, Value.int s_readStairs, Value.int s_fault, Value.int s_faultPlace, Value.int (nI w), Value.int (nI h), Value.ref m_low, Value.ref m_high, Value.ref m_crack, Value.int (nI bc), Value.ref m_weight, Value.ref m_fire, Value.ref m_crowd, Value.ref m_state, Value.ref m_where, Value.int s_hours, Value.int s_fees, Value.int s_looks, Value.ref m_words, Value.int s_end, Value.int s_next, Value.int s_kind, Value.int s_which, Value.int s_place, Value.int s_read, Value.ref m_told, Value.ref m_breaks, Value.ref m_row, Value.ref m_tried, Value.ref m_steps, Value.ref m_paths])), (m_stair, Sum.inl (y_stair, 24, Sum.inl f_stair)), (m_low, Sum.inl (y_low, 100, Sum.inl f_low)), (m_crack, Sum.inl (y_crack, 100, Sum.inl f_crack))]) [1, 0, 2, 3] rfl
      have hD9 := hD.sub (ws' := [(h0, Sum.inr (9, [Value.ref m_tape, Value.int (nI ln), Value.int s_thrown, Value.ref m_rule, Value.ref m_rules, Value.int (nI sn), Value.ref m_stair, Value.int s_readStairs, Value.int s_fault, Value.int s_faultPlace, Value.int (nI w), Value.int (nI h), Value.ref m_low, Value.ref m_high, Value.ref m_crack, Value.int (nI bc), Value.ref m_weight, Value.ref m_fire, Value.ref m_crowd, Value.ref m_state, Value.ref m_where, Value.int s_hours, Value.int s_fees, Value.int s_looks, Value.ref m_words, Value.int s_end, Value.int s_next, Value.int s_kind, Value.int s_which, Value.int s_place, Value.int s_read, Value.ref m_told, Value.ref m_breaks, Value.ref m_row, Value.ref m_tried, Value.ref m_steps, Value.ref m_paths])), (m_stair, Sum.inl (y_stair, 24, Sum.inl f_stair)), (m_low, Sum.inl (y_low, 100, Sum.inl f_low)), (m_crack, Sum.inl (y_crack, 100, Sum.inl f_crack))]) [1, 0, 2, 3] (by decide) rfl
      have hK9 := hK.sub (tys' := []) [] rfl
      refine W.widen (k := 0) (n := 0) (by decide) (by decide) ?_
      exact W.zret (v := 0) hx hb hr rfl (fun t ht hW => ⟨⟨0, (), rfl, Or.inl rfl, by rw [ht]; exact hP9, va_K.moved hW.alike hK9, hD9⟩, hS.F ht⟩) hS.2.2 dX10_isStair_49
    · skip
      refine lv_iconst (v := 1) hx hb dX10_isStair_44 (by decide) ?_
      refine lv_goto (tgt := 49) hx hb dX10_isStair_45 (by decide) ?_
      have hP9 := hP.sub (ws' := [(h0, Sum.inr (9, [Value.ref m_tape, Value.int (nI ln), Value.int s_thrown, Value.ref m_rule, Value.ref m_rules, Value.int (nI sn), Value.ref m_stair, Value.int s_readStairs, Value.int s_fault, Value.int s_faultPlace, Value.int (nI w), Value.int (nI h), Value.ref m_low, Value.ref m_high, Value.ref m_crack, Value.int (nI bc), Value.ref m_weight, Value.ref m_fire, Value.ref m_crowd, Value.ref m_state, Value.ref m_where, Value.int s_hours, Value.int s_fees, Value.int s_looks, Value.ref m_words, Value.int s_end, Value.int s_next, Value.int s_kind, Value.int s_which, Value.int s_place, Value.int s_read, Value.ref m_told, Value.ref m_breaks, Value.ref m_row, Value.ref m_tried, Value.ref m_steps, Value.ref m_paths])), (m_stair, Sum.inl (y_stair, 24, Sum.inl f_stair)), (m_low, Sum.inl (y_low, 100, Sum.inl f_low)), (m_crack, Sum.inl (y_crack, 100, Sum.inl f_crack))]) [1, 0, 2, 3] rfl
      have hD9 := hD.sub (ws' := [(h0, Sum.inr (9, [Value.ref m_tape, Value.int (nI ln), Value.int s_thrown, Value.ref m_rule, Value.ref m_rules, Value.int (nI sn), Value.ref m_stair, Value.int s_readStairs, Value.int s_fault, Value.int s_faultPlace, Value.int (nI w), Value.int (nI h), Value.ref m_low, Value.ref m_high, Value.ref m_crack, Value.int (nI bc), Value.ref m_weight, Value.ref m_fire, Value.ref m_crowd, Value.ref m_state, Value.ref m_where, Value.int s_hours, Value.int s_fees, Value.int s_looks, Value.ref m_words, Value.int s_end, Value.int s_next, Value.int s_kind, Value.int s_which, Value.int s_place, Value.int s_read, Value.ref m_told, Value.ref m_breaks, Value.ref m_row, Value.ref m_tried, Value.ref m_steps, Value.ref m_paths])), (m_stair, Sum.inl (y_stair, 24, Sum.inl f_stair)), (m_low, Sum.inl (y_low, 100, Sum.inl f_low)), (m_crack, Sum.inl (y_crack, 100, Sum.inl f_crack))]) [1, 0, 2, 3] (by decide) rfl
      have hK9 := hK.sub (tys' := []) [] rfl
      refine W.widen (k := 0) (n := 0) (by decide) (by decide) ?_
      exact W.zret (v := 1) hx hb hr rfl (fun t ht hW => ⟨⟨1, (), rfl, Or.inr rfl, by rw [ht]; exact hP9, va_K.moved hW.alike hK9, hD9⟩, hS.F ht⟩) hS.2.2 dX10_isStair_49
set_option maxHeartbeats 4000000 in
set_option maxRecDepth 100000 in
theorem lp_n_beside {p : Program} {l : Launch} {e : Env} {s : State} {m : MethodId} {args : Array Value} {below : List Frame} {meth : Method} {c : Code} {Q : State → Prop} {A : Nat → Prop} {D : va_G} (F : mFix p s m args c cX10_beside 8 RX10) (hA : ∀ q, s.heap.size ≤ q → A q) (h0 : Nat) (m_tape : Nat) (ln : Nat) (s_thrown : Int32) (m_rule : Nat) (m_rules : Nat) (sn : Nat) (m_stair : Nat) (s_readStairs : Int32) (s_fault : Int32) (s_faultPlace : Int32) (w : Nat) (h : Nat) (m_low : Nat) (m_high : Nat) (m_crack : Nat) (bc : Nat) (m_weight : Nat) (m_fire : Nat) (m_crowd : Nat) (m_state : Nat) (m_where : Nat) (s_hours : Int32) (s_fees : Int32) (s_looks : Int32) (m_words : Nat) (s_end : Int32) (s_next : Int32) (s_kind : Int32) (s_which : Int32) (s_place : Int32) (s_read : Int32) (m_told : Nat) (m_breaks : Nat) (m_row : Nat) (m_tried : Nat) (m_steps : Nat) (m_paths : Nat) (y_steps : ClassId) (f_steps : Nat → Int32) (y_low : ClassId) (f_low : Nat → Int32) (y_crack : ClassId) (f_crack : Nat → Int32) (si : Nat) (x : Int32) (y : Int32) (hK : va_K D vwCl [(y_steps, .int), (y_low, .int), (y_crack, .boolean)] s)
    (kx_138 : ∀ (bq : Nat), (bq ≤ 9999) → ∀ (H : Heap) (locs : List Loc), va_P D vwCl [(h0, Sum.inr (9, [Value.ref m_tape, Value.int (nI ln), Value.int s_thrown, Value.ref m_rule, Value.ref m_rules, Value.int (nI sn), Value.ref m_stair, Value.int s_readStairs, Value.int s_fault, Value.int s_faultPlace, Value.int (nI w), Value.int (nI h), Value.ref m_low, Value.ref m_high, Value.ref m_crack, Value.int (nI bc), Value.ref m_weight, Value.ref m_fire, Value.ref m_crowd, Value.ref m_state, Value.ref m_where, Value.int s_hours, Value.int s_fees, Value.int s_looks, Value.ref m_words, Value.int s_end, Value.int s_next, Value.int s_kind, Value.int s_which, Value.int s_place, Value.int s_read, Value.ref m_told, Value.ref m_breaks, Value.ref m_row, Value.ref m_tried, Value.ref m_steps, Value.ref m_paths])), (m_steps, Sum.inl (y_steps, 400, Sum.inl f_steps)), (m_low, Sum.inl (y_low, 100, Sum.inl f_low)), (m_crack, Sum.inl (y_crack, 100, Sum.inl f_crack))] H → va_D A [(h0, Sum.inr (9, [Value.ref m_tape, Value.int (nI ln), Value.int s_thrown, Value.ref m_rule, Value.ref m_rules, Value.int (nI sn), Value.ref m_stair, Value.int s_readStairs, Value.int s_fault, Value.int s_faultPlace, Value.int (nI w), Value.int (nI h), Value.ref m_low, Value.ref m_high, Value.ref m_crack, Value.int (nI bc), Value.ref m_weight, Value.ref m_fire, Value.ref m_crowd, Value.ref m_state, Value.ref m_where, Value.int s_hours, Value.int s_fees, Value.int s_looks, Value.ref m_words, Value.int s_end, Value.int s_next, Value.int s_kind, Value.int s_which, Value.int s_place, Value.int s_read, Value.ref m_told, Value.ref m_breaks, Value.ref m_row, Value.ref m_tried, Value.ref m_steps, Value.ref m_paths])), (m_steps, Sum.inl (y_steps, 400, Sum.inl f_steps)), (m_low, Sum.inl (y_low, 100, Sum.inl f_low)), (m_crack, Sum.inl (y_crack, 100, Sum.inl f_crack))] → va_S A s.heap H locs → ∀ ls : Array Slot, lv_has ls 8 [(4, Value.int (nI bq))] → W p l e ({ frames := 1, cells := 0, slots := 0, locals := 22 }) s m args below meth c H locs 0 0 Q (F0 m 138 ls [])) :
    ∀ n : Nat, ∀ (bq : Nat) (kq : Nat), (bq ≤ 9999) → (kq ≤ 4) → (si < 4) → (rOK 10000 f_steps 400) → (w ≤ 10) → (h ≤ 10) → (4 - kq) < n → ∀ (H : Heap) (locs : List Loc), va_P D vwCl [(h0, Sum.inr (9, [Value.ref m_tape, Value.int (nI ln), Value.int s_thrown, Value.ref m_rule, Value.ref m_rules, Value.int (nI sn), Value.ref m_stair, Value.int s_readStairs, Value.int s_fault, Value.int s_faultPlace, Value.int (nI w), Value.int (nI h), Value.ref m_low, Value.ref m_high, Value.ref m_crack, Value.int (nI bc), Value.ref m_weight, Value.ref m_fire, Value.ref m_crowd, Value.ref m_state, Value.ref m_where, Value.int s_hours, Value.int s_fees, Value.int s_looks, Value.ref m_words, Value.int s_end, Value.int s_next, Value.int s_kind, Value.int s_which, Value.int s_place, Value.int s_read, Value.ref m_told, Value.ref m_breaks, Value.ref m_row, Value.ref m_tried, Value.ref m_steps, Value.ref m_paths])), (m_steps, Sum.inl (y_steps, 400, Sum.inl f_steps)), (m_low, Sum.inl (y_low, 100, Sum.inl f_low)), (m_crack, Sum.inl (y_crack, 100, Sum.inl f_crack))] H → va_D A [(h0, Sum.inr (9, [Value.ref m_tape, Value.int (nI ln), Value.int s_thrown, Value.ref m_rule, Value.ref m_rules, Value.int (nI sn), Value.ref m_stair, Value.int s_readStairs, Value.int s_fault, Value.int s_faultPlace, Value.int (nI w), Value.int (nI h), Value.ref m_low, Value.ref m_high, Value.ref m_crack, Value.int (nI bc), Value.ref m_weight, Value.ref m_fire, Value.ref m_crowd, Value.ref m_state, Value.ref m_where, Value.int s_hours, Value.int s_fees, Value.int s_looks, Value.ref m_words, Value.int s_end, Value.int s_next, Value.int s_kind, Value.int s_which, Value.int s_place, Value.int s_read, Value.ref m_told, Value.ref m_breaks, Value.ref m_row, Value.ref m_tried, Value.ref m_steps, Value.ref m_paths])), (m_steps, Sum.inl (y_steps, 400, Sum.inl f_steps)), (m_low, Sum.inl (y_low, 100, Sum.inl f_low)), (m_crack, Sum.inl (y_crack, 100, Sum.inl f_crack))] → va_S A s.heap H locs → ∀ ls : Array Slot, lv_has ls 8 [(0, Value.ref h0), (1, Value.int (nI si)), (2, Value.int x), (3, Value.int y), (4, Value.int (nI bq)), (5, Value.int (nI kq))] → W p l e ({ frames := 1, cells := 0, slots := 0, locals := 22 }) s m args below meth c H locs 0 0 Q (F0 m 8 ls []) := by
  intro n
  induction n with
  | zero => intro bq kq hbq hkq hsi hsp h3 h4 hn; exact absurd hn (Nat.not_lt_zero _)
  | succ n ih =>
    intro bq kq hbq hkq hsi hsp h3 h4 hn H locs hP hD hS ls hl
    obtain ⟨hx, hb, hml, hown, hts⟩ := id F
    refine lv_iload hx hb dX10_beside_8 (lv_at hl 5 rfl) ?_
    refine lv_iconst (v := 4) hx hb dX10_beside_10 (by decide) ?_
    refine lv_icmp_ge (tgt := 138) hx hb dX10_beside_11 (by decide) (fun c_1 => ?_) (fun c_1 => ?_)
    · skip
      have c_1n : 4 ≤ kq := (nI_leI (by omega) (by omega)).mp c_1
      have c_1 := Int32.not_lt.mpr c_1
      exact kx_138 bq (by omega) H locs (hP.sub [0, 1, 2, 3] rfl) (hD.sub [0, 1, 2, 3] (by decide) rfl) hS ls (lv_sub hl [4] rfl)
    · skip
      have c_1n : kq < 4 := nb_le (by omega) (by omega) c_1
      have c_1 := Int32.not_le.mp c_1
      refine lv_iload_n hx hb dX10_beside_14 rfl (lv_at hl 2 rfl) ?_
      refine lv_iload hx hb dX10_beside_15 (lv_at hl 5 rfl) ?_
      refine lv_if_ne (tgt := 24) hx hb dX10_beside_17 (by decide) (fun c_2 => ?_) (fun c_2 => ?_)
      · skip
        have c_2n : ¬ kq = 0 := nb_eq (by omega) (by omega) c_2
        refine lv_iload hx hb dX10_beside_24 (lv_at hl 5 rfl) ?_
        refine lv_iconst (v := 1) hx hb dX10_beside_26 (by decide) ?_
        refine lv_icmp_ne (tgt := 34) hx hb dX10_beside_27 (by decide) (fun c_3 => ?_) (fun c_3 => ?_)
        · skip
          have c_3n : ¬ kq = 1 := nb_eq (by omega) (by omega) c_3
          refine lv_iconst (v := 0) hx hb dX10_beside_34 (by decide) ?_
          refine lv_iadd hx hb dX10_beside_35 ?_
          refine lv_topi (fun z_4 ez_4 => ?_)
          refine lv_istore (lv' := [(6, Value.int z_4), (0, Value.ref h0), (1, Value.int (nI si)), (2, Value.int x), (3, Value.int y), (4, Value.int (nI bq)), (5, Value.int (nI kq))]) hx hb dX10_beside_36 hl (by decide) rfl (fun ls hl => ?_)
          refine lv_iload_n hx hb dX10_beside_38 rfl (lv_at hl 4 rfl) ?_
          refine lv_iload hx hb dX10_beside_39 (lv_at hl 6 rfl) ?_
          refine lv_iconst (v := 2) hx hb dX10_beside_41 (by decide) ?_
          refine lv_icmp_ne (tgt := 49) hx hb dX10_beside_42 (by decide) (fun c_5 => ?_) (fun c_5 => ?_)
          · skip
            have c_5n : ¬ kq = 2 := nb_eq (by omega) (by omega) c_5
            refine lv_iload hx hb dX10_beside_49 (lv_at hl 6 rfl) ?_
            refine lv_iconst (v := 3) hx hb dX10_beside_51 (by decide) ?_
            refine lv_icmp_ne (tgt := 59) hx hb dX10_beside_52 (by decide) (fun c_6 => ?_) (fun c_6 => ?_)
            · skip
              have c_6n : ¬ kq = 3 := nb_eq (by omega) (by omega) c_6
              refine lv_iconst (v := 0) hx hb dX10_beside_59 (by decide) ?_
              refine lv_iadd hx hb dX10_beside_60 ?_
              refine lv_topi (fun z_7 ez_7 => ?_)
              refine lv_istore (lv' := [(7, Value.int z_7), (6, Value.int z_4), (0, Value.ref h0), (1, Value.int (nI si)), (2, Value.int x), (3, Value.int y), (4, Value.int (nI bq)), (5, Value.int (nI kq))]) hx hb dX10_beside_61 hl (by decide) rfl (fun ls hl => ?_)
              refine lv_aload_n hx hb dX10_beside_63 rfl (lv_at hl 2 rfl) ?_
              refine lv_iload hx hb dX10_beside_64 (lv_at hl 1 rfl) ?_
              refine lv_iload hx hb dX10_beside_66 (lv_at hl 0 rfl) ?_
              refine mc_Vi (rest := []) (wr := [(m_steps, Sum.inl (y_steps, 400, Sum.inl f_steps)), (m_low, Sum.inl (y_low, 100, Sum.inl f_low)), (m_crack, Sum.inl (y_crack, 100, Sum.inl f_crack))]) F hK hP hD hS hA (n_isCell l D h0 m_tape ln s_thrown m_rule m_rules sn m_stair s_readStairs s_fault s_faultPlace w h m_low m_high m_crack bc m_weight m_fire m_crowd m_state m_where s_hours s_fees s_looks m_words s_end s_next s_kind s_which s_place s_read m_told m_breaks m_row m_tried m_steps m_paths z_4 z_7 (by omega) (by omega)) ⟨gk_X10_155.1, gk_X10_155.2, Nat.le_of_ble_eq_true rfl, Nat.le_of_ble_eq_true rfl⟩ [0] [1, 2, 3] [] ⟨rfl, rfl, rfl, rfl, by decide⟩ rfl xT_move (fun _ _ _ => trivial) 0 rfl rfl rfl hl.1 rfl (Nat.le_of_ble_eq_true rfl) dX10_beside_68 ⟨Nat.le_of_ble_eq_true rfl, Nat.le_of_ble_eq_true rfl⟩ (fun r_8 _ H locs hw hK1 hP hD hS => ?_)
              have hP : va_P D vwCl [(m_steps, Sum.inl (y_steps, 400, Sum.inl f_steps)), (m_low, Sum.inl (y_low, 100, Sum.inl f_low)), (m_crack, Sum.inl (y_crack, 100, Sum.inl f_crack)), (h0, Sum.inr (9, [Value.ref m_tape, Value.int (nI ln), Value.int s_thrown, Value.ref m_rule, Value.ref m_rules, Value.int (nI sn), Value.ref m_stair, Value.int s_readStairs, Value.int s_fault, Value.int s_faultPlace, Value.int (nI w), Value.int (nI h), Value.ref m_low, Value.ref m_high, Value.ref m_crack, Value.int (nI bc), Value.ref m_weight, Value.ref m_fire, Value.ref m_crowd, Value.ref m_state, Value.ref m_where, Value.int s_hours, Value.int s_fees, Value.int s_looks, Value.ref m_words, Value.int s_end, Value.int s_next, Value.int s_kind, Value.int s_which, Value.int s_place, Value.int s_read, Value.ref m_told, Value.ref m_breaks, Value.ref m_row, Value.ref m_tried, Value.ref m_steps, Value.ref m_paths]))] H := hP
              have hD : va_D A [(m_steps, Sum.inl (y_steps, 400, Sum.inl f_steps)), (m_low, Sum.inl (y_low, 100, Sum.inl f_low)), (m_crack, Sum.inl (y_crack, 100, Sum.inl f_crack)), (h0, Sum.inr (9, [Value.ref m_tape, Value.int (nI ln), Value.int s_thrown, Value.ref m_rule, Value.ref m_rules, Value.int (nI sn), Value.ref m_stair, Value.int s_readStairs, Value.int s_fault, Value.int s_faultPlace, Value.int (nI w), Value.int (nI h), Value.ref m_low, Value.ref m_high, Value.ref m_crack, Value.int (nI bc), Value.ref m_weight, Value.ref m_fire, Value.ref m_crowd, Value.ref m_state, Value.ref m_where, Value.int s_hours, Value.int s_fees, Value.int s_looks, Value.ref m_words, Value.int s_end, Value.int s_next, Value.int s_kind, Value.int s_which, Value.int s_place, Value.int s_read, Value.ref m_told, Value.ref m_breaks, Value.ref m_row, Value.ref m_tried, Value.ref m_steps, Value.ref m_paths]))] := hD
              have hw_9 : r_8 = (if (z_4 < 0 ∨ ¬ z_4 < nI w ∨ z_7 < 0 ∨ ¬ z_7 < nI h) then 0 else 1) := hw
              by_cases ho_10 : (z_4 < 0 ∨ ¬ z_4 < nI w ∨ z_7 < 0 ∨ ¬ z_7 < nI h)
              · skip
                obtain rfl : r_8 = 0 := by rw [hw_9, if_pos ho_10]
                refine lv_if_eq (tgt := 132) hx hb dX10_beside_71 (by decide) (fun c_11 => ?_) (fun c_11 => absurd c_11 (by decide))
                refine lv_iinc (v := nI (kq + 1)) (lv' := [(5, Value.int (nI (kq + 1))), (7, Value.int z_7), (6, Value.int z_4), (0, Value.ref h0), (1, Value.int (nI si)), (2, Value.int x), (3, Value.int y), (4, Value.int (nI bq))]) hx hb dX10_beside_132 hl (k := 7) rfl (nI_add kq 1) (by decide) rfl (fun ls hl => ?_)
                refine lv_goto (tgt := 8) hx hb dX10_beside_135 (by decide) ?_
                exact ih bq (kq + 1) (by omega) (by omega) (by omega) hsp (by omega) (by omega) (by omega) H locs (hP.sub [3, 0, 1, 2] rfl) (hD.sub [3, 0, 1, 2] (by decide) rfl) hS ls (lv_sub hl [3, 4, 5, 6, 7, 0] rfl)
              · skip
                obtain rfl : r_8 = 1 := by rw [hw_9, if_neg ho_10]
                obtain ⟨i_12, hi_12, ei_12⟩ : ∃ j : Nat, j < w ∧ z_4 = nI j := n_lt (fun q => ho_10 (Or.inl q)) (fun q => ho_10 (Or.inr (Or.inl (Int32.not_lt.mpr q)))) (by omega)
                obtain ⟨j_13, hj_13, ej_13⟩ : ∃ j : Nat, j < h ∧ z_7 = nI j := n_lt (fun q => ho_10 (Or.inr (Or.inr (Or.inl q)))) (fun q => ho_10 (Or.inr (Or.inr (Or.inr (Int32.not_lt.mpr q))))) (by omega)
                subst ei_12
                subst ej_13
                have hl : lv_has ls 8 [(7, Value.int (nI j_13)), (6, Value.int (nI i_12)), (0, Value.ref h0), (1, Value.int (nI si)), (2, Value.int x), (3, Value.int y), (4, Value.int (nI bq)), (5, Value.int (nI kq))] := hl
                refine lv_if_eq (tgt := 132) hx hb dX10_beside_71 (by decide) (fun c_14 => absurd c_14 (by decide)) (fun c_14 => ?_)
                refine lv_aload_n hx hb dX10_beside_74 rfl (lv_at hl 2 rfl) ?_
                refine lv_bipush (v := 10) hx hb dX10_beside_75 (by decide) ?_
                refine lv_iload hx hb dX10_beside_77 (lv_at hl 0 rfl) ?_
                refine lv_imul hx hb dX10_beside_79 ?_
                refine lv_topi (fun z_15 ez_15 => ?_)
                obtain rfl : z_15 = nI (10 * j_13) := ez_15.trans (pk_mul 10 j_13)
                refine lv_iload hx hb dX10_beside_80 (lv_at hl 1 rfl) ?_
                refine lv_iadd hx hb dX10_beside_82 ?_
                refine lv_topi (fun z_16 ez_16 => ?_)
                obtain rfl : z_16 = nI (10 * j_13 + i_12) := ez_16.trans (nI_add (10 * j_13) i_12)
                refine mc_Vi (rest := []) (wr := [(m_steps, Sum.inl (y_steps, 400, Sum.inl f_steps))]) F hK hP hD hS hA (n_isOpen l D h0 m_tape ln s_thrown m_rule m_rules sn m_stair s_readStairs s_fault s_faultPlace w h m_low m_high m_crack bc m_weight m_fire m_crowd m_state m_where s_hours s_fees s_looks m_words s_end s_next s_kind s_which s_place s_read m_told m_breaks m_row m_tried m_steps m_paths y_low f_low y_crack f_crack (10 * j_13 + i_12) (by omega)) ⟨gk_X10_174.1, gk_X10_174.2, Nat.le_of_ble_eq_true rfl, Nat.le_of_ble_eq_true rfl⟩ [3, 1, 2] [0] [1, 2] ⟨rfl, rfl, rfl, rfl, by decide⟩ rfl xT_move (fun _ _ _ => trivial) 3 rfl rfl rfl hl.1 rfl (Nat.le_of_ble_eq_true rfl) dX10_beside_83 ⟨Nat.le_of_ble_eq_true rfl, Nat.le_of_ble_eq_true rfl⟩ (fun r_17 _ H locs hw hK1 hP hD hS => ?_)
                have hP : va_P D vwCl [(m_steps, Sum.inl (y_steps, 400, Sum.inl f_steps)), (h0, Sum.inr (9, [Value.ref m_tape, Value.int (nI ln), Value.int s_thrown, Value.ref m_rule, Value.ref m_rules, Value.int (nI sn), Value.ref m_stair, Value.int s_readStairs, Value.int s_fault, Value.int s_faultPlace, Value.int (nI w), Value.int (nI h), Value.ref m_low, Value.ref m_high, Value.ref m_crack, Value.int (nI bc), Value.ref m_weight, Value.ref m_fire, Value.ref m_crowd, Value.ref m_state, Value.ref m_where, Value.int s_hours, Value.int s_fees, Value.int s_looks, Value.ref m_words, Value.int s_end, Value.int s_next, Value.int s_kind, Value.int s_which, Value.int s_place, Value.int s_read, Value.ref m_told, Value.ref m_breaks, Value.ref m_row, Value.ref m_tried, Value.ref m_steps, Value.ref m_paths])), (m_low, Sum.inl (y_low, 100, Sum.inl f_low)), (m_crack, Sum.inl (y_crack, 100, Sum.inl f_crack))] H := hP
                have hD : va_D A [(m_steps, Sum.inl (y_steps, 400, Sum.inl f_steps)), (h0, Sum.inr (9, [Value.ref m_tape, Value.int (nI ln), Value.int s_thrown, Value.ref m_rule, Value.ref m_rules, Value.int (nI sn), Value.ref m_stair, Value.int s_readStairs, Value.int s_fault, Value.int s_faultPlace, Value.int (nI w), Value.int (nI h), Value.ref m_low, Value.ref m_high, Value.ref m_crack, Value.int (nI bc), Value.ref m_weight, Value.ref m_fire, Value.ref m_crowd, Value.ref m_state, Value.ref m_where, Value.int s_hours, Value.int s_fees, Value.int s_looks, Value.ref m_words, Value.int s_end, Value.int s_next, Value.int s_kind, Value.int s_which, Value.int s_place, Value.int s_read, Value.ref m_told, Value.ref m_breaks, Value.ref m_row, Value.ref m_tried, Value.ref m_steps, Value.ref m_paths])), (m_low, Sum.inl (y_low, 100, Sum.inl f_low)), (m_crack, Sum.inl (y_crack, 100, Sum.inl f_crack))] := hD
                have hw_18 : r_17 = 0 ∨ r_17 = 1 := hw
                refine lv_if_eq (tgt := 132) hx hb dX10_beside_86 (by decide) (fun c_19 => ?_) (fun c_19 => ?_)
                · skip
                  refine lv_iinc (v := nI (kq + 1)) (lv' := [(5, Value.int (nI (kq + 1))), (7, Value.int (nI j_13)), (6, Value.int (nI i_12)), (0, Value.ref h0), (1, Value.int (nI si)), (2, Value.int x), (3, Value.int y), (4, Value.int (nI bq))]) hx hb dX10_beside_132 hl (k := 7) rfl (nI_add kq 1) (by decide) rfl (fun ls hl => ?_)
                  refine lv_goto (tgt := 8) hx hb dX10_beside_135 (by decide) ?_
                  exact ih bq (kq + 1) (by omega) (by omega) (by omega) hsp (by omega) (by omega) (by omega) H locs (hP.sub [1, 0, 2, 3] rfl) (hD.sub [1, 0, 2, 3] (by decide) rfl) hS ls (lv_sub hl [3, 4, 5, 6, 7, 0] rfl)
                · skip
                  refine lv_aload_n hx hb dX10_beside_89 rfl (lv_at hl 2 rfl) ?_
                  refine va_get (D := D) (ci := 9) (v := Value.ref m_steps) (C := RX10) (T := TX10) (N := 37) hx hb hts inG_X10 hown hK hP 1 rfl rfl 35 (by decide) (hts _ kw_4_230) (fun _ h9 => h9) rfl dX10_beside_90 ?_
                  refine lv_bipush (v := 100) hx hb dX10_beside_93 (by decide) ?_
                  refine lv_iload_n hx hb dX10_beside_95 rfl (lv_at hl 3 rfl) ?_
                  refine lv_imul hx hb dX10_beside_96 ?_
                  refine lv_topi (fun z_20 ez_20 => ?_)
                  obtain rfl : z_20 = nI (100 * si) := ez_20.trans (pk_mul 100 si)
                  refine lv_bipush (v := 10) hx hb dX10_beside_97 (by decide) ?_
                  refine lv_iload hx hb dX10_beside_99 (lv_at hl 0 rfl) ?_
                  refine lv_imul hx hb dX10_beside_101 ?_
                  refine lv_topi (fun z_21 ez_21 => ?_)
                  obtain rfl : z_21 = nI (10 * j_13) := ez_21.trans (pk_mul 10 j_13)
                  refine lv_iadd hx hb dX10_beside_102 ?_
                  refine lv_topi (fun z_22 ez_22 => ?_)
                  obtain rfl : z_22 = nI (100 * si + 10 * j_13) := ez_22.trans (nI_add (100 * si) (10 * j_13))
                  refine lv_iload hx hb dX10_beside_103 (lv_at hl 1 rfl) ?_
                  refine lv_iadd hx hb dX10_beside_105 ?_
                  refine lv_topi (fun z_23 ez_23 => ?_)
                  obtain rfl : z_23 = nI (100 * si + 10 * j_13 + i_12) := ez_23.trans (nI_add (100 * si + 10 * j_13) i_12)
                  refine m_iald hx hb hK hP 0 0 rfl rfl (100 * si + 10 * j_13 + i_12) rfl (by omega) (by decide) dX10_beside_106 ?_
                  refine lv_topi (fun v_24 ev_24 => ?_)
                  obtain ⟨q_25, hq_25, Eq_25⟩ := hsp (100 * si + 10 * j_13 + i_12) (by omega)
                  obtain rfl : v_24 = nI q_25 := ev_24.trans Eq_25
                  refine lv_iload hx hb dX10_beside_107 (lv_at hl 6 rfl) ?_
                  refine lv_icmp_ge (tgt := 132) hx hb dX10_beside_109 (by decide) (fun c_26 => ?_) (fun c_26 => ?_)
                  · skip
                    have c_26n : bq ≤ q_25 := (nI_leI (by omega) (by omega)).mp c_26
                    have c_26 := Int32.not_lt.mpr c_26
                    refine lv_iinc (v := nI (kq + 1)) (lv' := [(5, Value.int (nI (kq + 1))), (7, Value.int (nI j_13)), (6, Value.int (nI i_12)), (0, Value.ref h0), (1, Value.int (nI si)), (2, Value.int x), (3, Value.int y), (4, Value.int (nI bq))]) hx hb dX10_beside_132 hl (k := 7) rfl (nI_add kq 1) (by decide) rfl (fun ls hl => ?_)
                    refine lv_goto (tgt := 8) hx hb dX10_beside_135 (by decide) ?_
                    exact ih bq (kq + 1) (by omega) (by omega) (by omega) hsp (by omega) (by omega) (by omega) H locs (hP.sub [1, 0, 2, 3] rfl) (hD.sub [1, 0, 2, 3] (by decide) rfl) hS ls (lv_sub hl [3, 4, 5, 6, 7, 0] rfl)
                  · skip
                    have c_26n : q_25 < bq := nb_le (by omega) (by omega) c_26
                    have c_26 := Int32.not_le.mp c_26
                    refine lv_aload_n hx hb dX10_beside_112 rfl (lv_at hl 2 rfl) ?_
                    refine va_get (D := D) (ci := 9) (v := Value.ref m_steps) (C := RX10) (T := TX10) (N := 37) hx hb hts inG_X10 hown hK hP 1 rfl rfl 35 (by decide) (hts _ kw_4_230) (fun _ h9 => h9) rfl dX10_beside_113 ?_
                    refine lv_bipush (v := 100) hx hb dX10_beside_116 (by decide) ?_
                    refine lv_iload_n hx hb dX10_beside_118 rfl (lv_at hl 3 rfl) ?_
                    refine lv_imul hx hb dX10_beside_119 ?_
                    refine lv_topi (fun z_27 ez_27 => ?_)
                    obtain rfl : z_27 = nI (100 * si) := ez_27.trans (pk_mul 100 si)
                    refine lv_bipush (v := 10) hx hb dX10_beside_120 (by decide) ?_
                    refine lv_iload hx hb dX10_beside_122 (lv_at hl 0 rfl) ?_
                    refine lv_imul hx hb dX10_beside_124 ?_
                    refine lv_topi (fun z_28 ez_28 => ?_)
                    obtain rfl : z_28 = nI (10 * j_13) := ez_28.trans (pk_mul 10 j_13)
                    refine lv_iadd hx hb dX10_beside_125 ?_
                    refine lv_topi (fun z_29 ez_29 => ?_)
                    obtain rfl : z_29 = nI (100 * si + 10 * j_13) := ez_29.trans (nI_add (100 * si) (10 * j_13))
                    refine lv_iload hx hb dX10_beside_126 (lv_at hl 1 rfl) ?_
                    refine lv_iadd hx hb dX10_beside_128 ?_
                    refine lv_topi (fun z_30 ez_30 => ?_)
                    obtain rfl : z_30 = nI (100 * si + 10 * j_13 + i_12) := ez_30.trans (nI_add (100 * si + 10 * j_13) i_12)
                    refine m_iald hx hb hK hP 0 0 rfl rfl (100 * si + 10 * j_13 + i_12) rfl (by omega) (by decide) dX10_beside_129 ?_
                    refine lv_topi (fun v_31 ev_31 => ?_)
                    obtain ⟨q_32, hq_32, Eq_32⟩ := hsp (100 * si + 10 * j_13 + i_12) (by omega)
                    obtain rfl : v_31 = nI q_32 := ev_31.trans Eq_32
                    refine lv_istore (lv' := [(4, Value.int (nI q_32)), (7, Value.int (nI j_13)), (6, Value.int (nI i_12)), (0, Value.ref h0), (1, Value.int (nI si)), (2, Value.int x), (3, Value.int y), (5, Value.int (nI kq))]) hx hb dX10_beside_130 hl (by decide) rfl (fun ls hl => ?_)
                    refine lv_iinc (v := nI (kq + 1)) (lv' := [(5, Value.int (nI (kq + 1))), (4, Value.int (nI q_32)), (7, Value.int (nI j_13)), (6, Value.int (nI i_12)), (0, Value.ref h0), (1, Value.int (nI si)), (2, Value.int x), (3, Value.int y)]) hx hb dX10_beside_132 hl (k := 7) rfl (nI_add kq 1) (by decide) rfl (fun ls hl => ?_)
                    refine lv_goto (tgt := 8) hx hb dX10_beside_135 (by decide) ?_
                    exact ih q_32 (kq + 1) (by omega) (by omega) (by omega) hsp (by omega) (by omega) (by omega) H locs (hP.sub [1, 0, 2, 3] rfl) (hD.sub [1, 0, 2, 3] (by decide) rfl) hS ls (lv_sub hl [4, 5, 6, 7, 1, 0] rfl)
            · skip
              have c_6n : kq = 3 := (nI_eq (by omega) (by omega)).mp c_6
              refine lv_iconst (v := -1) hx hb dX10_beside_55 (by decide) ?_
              refine lv_goto (tgt := 60) hx hb dX10_beside_56 (by decide) ?_
              refine lv_iadd hx hb dX10_beside_60 ?_
              refine lv_topi (fun z_33 ez_33 => ?_)
              refine lv_istore (lv' := [(7, Value.int z_33), (6, Value.int z_4), (0, Value.ref h0), (1, Value.int (nI si)), (2, Value.int x), (3, Value.int y), (4, Value.int (nI bq)), (5, Value.int (nI kq))]) hx hb dX10_beside_61 hl (by decide) rfl (fun ls hl => ?_)
              refine lv_aload_n hx hb dX10_beside_63 rfl (lv_at hl 2 rfl) ?_
              refine lv_iload hx hb dX10_beside_64 (lv_at hl 1 rfl) ?_
              refine lv_iload hx hb dX10_beside_66 (lv_at hl 0 rfl) ?_
              refine mc_Vi (rest := []) (wr := [(m_steps, Sum.inl (y_steps, 400, Sum.inl f_steps)), (m_low, Sum.inl (y_low, 100, Sum.inl f_low)), (m_crack, Sum.inl (y_crack, 100, Sum.inl f_crack))]) F hK hP hD hS hA (n_isCell l D h0 m_tape ln s_thrown m_rule m_rules sn m_stair s_readStairs s_fault s_faultPlace w h m_low m_high m_crack bc m_weight m_fire m_crowd m_state m_where s_hours s_fees s_looks m_words s_end s_next s_kind s_which s_place s_read m_told m_breaks m_row m_tried m_steps m_paths z_4 z_33 (by omega) (by omega)) ⟨gk_X10_155.1, gk_X10_155.2, Nat.le_of_ble_eq_true rfl, Nat.le_of_ble_eq_true rfl⟩ [0] [1, 2, 3] [] ⟨rfl, rfl, rfl, rfl, by decide⟩ rfl xT_move (fun _ _ _ => trivial) 0 rfl rfl rfl hl.1 rfl (Nat.le_of_ble_eq_true rfl) dX10_beside_68 ⟨Nat.le_of_ble_eq_true rfl, Nat.le_of_ble_eq_true rfl⟩ (fun r_34 _ H locs hw hK1 hP hD hS => ?_)
              have hP : va_P D vwCl [(m_steps, Sum.inl (y_steps, 400, Sum.inl f_steps)), (m_low, Sum.inl (y_low, 100, Sum.inl f_low)), (m_crack, Sum.inl (y_crack, 100, Sum.inl f_crack)), (h0, Sum.inr (9, [Value.ref m_tape, Value.int (nI ln), Value.int s_thrown, Value.ref m_rule, Value.ref m_rules, Value.int (nI sn), Value.ref m_stair, Value.int s_readStairs, Value.int s_fault, Value.int s_faultPlace, Value.int (nI w), Value.int (nI h), Value.ref m_low, Value.ref m_high, Value.ref m_crack, Value.int (nI bc), Value.ref m_weight, Value.ref m_fire, Value.ref m_crowd, Value.ref m_state, Value.ref m_where, Value.int s_hours, Value.int s_fees, Value.int s_looks, Value.ref m_words, Value.int s_end, Value.int s_next, Value.int s_kind, Value.int s_which, Value.int s_place, Value.int s_read, Value.ref m_told, Value.ref m_breaks, Value.ref m_row, Value.ref m_tried, Value.ref m_steps, Value.ref m_paths]))] H := hP
              have hD : va_D A [(m_steps, Sum.inl (y_steps, 400, Sum.inl f_steps)), (m_low, Sum.inl (y_low, 100, Sum.inl f_low)), (m_crack, Sum.inl (y_crack, 100, Sum.inl f_crack)), (h0, Sum.inr (9, [Value.ref m_tape, Value.int (nI ln), Value.int s_thrown, Value.ref m_rule, Value.ref m_rules, Value.int (nI sn), Value.ref m_stair, Value.int s_readStairs, Value.int s_fault, Value.int s_faultPlace, Value.int (nI w), Value.int (nI h), Value.ref m_low, Value.ref m_high, Value.ref m_crack, Value.int (nI bc), Value.ref m_weight, Value.ref m_fire, Value.ref m_crowd, Value.ref m_state, Value.ref m_where, Value.int s_hours, Value.int s_fees, Value.int s_looks, Value.ref m_words, Value.int s_end, Value.int s_next, Value.int s_kind, Value.int s_which, Value.int s_place, Value.int s_read, Value.ref m_told, Value.ref m_breaks, Value.ref m_row, Value.ref m_tried, Value.ref m_steps, Value.ref m_paths]))] := hD
              have hw_35 : r_34 = (if (z_4 < 0 ∨ ¬ z_4 < nI w ∨ z_33 < 0 ∨ ¬ z_33 < nI h) then 0 else 1) := hw
              by_cases ho_36 : (z_4 < 0 ∨ ¬ z_4 < nI w ∨ z_33 < 0 ∨ ¬ z_33 < nI h)
              · skip
                obtain rfl : r_34 = 0 := by rw [hw_35, if_pos ho_36]
                refine lv_if_eq (tgt := 132) hx hb dX10_beside_71 (by decide) (fun c_37 => ?_) (fun c_37 => absurd c_37 (by decide))
                refine lv_iinc (v := nI (kq + 1)) (lv' := [(5, Value.int (nI (kq + 1))), (7, Value.int z_33), (6, Value.int z_4), (0, Value.ref h0), (1, Value.int (nI si)), (2, Value.int x), (3, Value.int y), (4, Value.int (nI bq))]) hx hb dX10_beside_132 hl (k := 7) rfl (nI_add kq 1) (by decide) rfl (fun ls hl => ?_)
                refine lv_goto (tgt := 8) hx hb dX10_beside_135 (by decide) ?_
                exact ih bq (kq + 1) (by omega) (by omega) (by omega) hsp (by omega) (by omega) (by omega) H locs (hP.sub [3, 0, 1, 2] rfl) (hD.sub [3, 0, 1, 2] (by decide) rfl) hS ls (lv_sub hl [3, 4, 5, 6, 7, 0] rfl)
              · skip
                obtain rfl : r_34 = 1 := by rw [hw_35, if_neg ho_36]
                obtain ⟨i_38, hi_38, ei_38⟩ : ∃ j : Nat, j < w ∧ z_4 = nI j := n_lt (fun q => ho_36 (Or.inl q)) (fun q => ho_36 (Or.inr (Or.inl (Int32.not_lt.mpr q)))) (by omega)
                obtain ⟨j_39, hj_39, ej_39⟩ : ∃ j : Nat, j < h ∧ z_33 = nI j := n_lt (fun q => ho_36 (Or.inr (Or.inr (Or.inl q)))) (fun q => ho_36 (Or.inr (Or.inr (Or.inr (Int32.not_lt.mpr q))))) (by omega)
                subst ei_38
                subst ej_39
                have hl : lv_has ls 8 [(7, Value.int (nI j_39)), (6, Value.int (nI i_38)), (0, Value.ref h0), (1, Value.int (nI si)), (2, Value.int x), (3, Value.int y), (4, Value.int (nI bq)), (5, Value.int (nI kq))] := hl
                refine lv_if_eq (tgt := 132) hx hb dX10_beside_71 (by decide) (fun c_40 => absurd c_40 (by decide)) (fun c_40 => ?_)
                refine lv_aload_n hx hb dX10_beside_74 rfl (lv_at hl 2 rfl) ?_
                refine lv_bipush (v := 10) hx hb dX10_beside_75 (by decide) ?_
                refine lv_iload hx hb dX10_beside_77 (lv_at hl 0 rfl) ?_
                refine lv_imul hx hb dX10_beside_79 ?_
                refine lv_topi (fun z_41 ez_41 => ?_)
                obtain rfl : z_41 = nI (10 * j_39) := ez_41.trans (pk_mul 10 j_39)
                refine lv_iload hx hb dX10_beside_80 (lv_at hl 1 rfl) ?_
                refine lv_iadd hx hb dX10_beside_82 ?_
                refine lv_topi (fun z_42 ez_42 => ?_)
                obtain rfl : z_42 = nI (10 * j_39 + i_38) := ez_42.trans (nI_add (10 * j_39) i_38)
                refine mc_Vi (rest := []) (wr := [(m_steps, Sum.inl (y_steps, 400, Sum.inl f_steps))]) F hK hP hD hS hA (n_isOpen l D h0 m_tape ln s_thrown m_rule m_rules sn m_stair s_readStairs s_fault s_faultPlace w h m_low m_high m_crack bc m_weight m_fire m_crowd m_state m_where s_hours s_fees s_looks m_words s_end s_next s_kind s_which s_place s_read m_told m_breaks m_row m_tried m_steps m_paths y_low f_low y_crack f_crack (10 * j_39 + i_38) (by omega)) ⟨gk_X10_174.1, gk_X10_174.2, Nat.le_of_ble_eq_true rfl, Nat.le_of_ble_eq_true rfl⟩ [3, 1, 2] [0] [1, 2] ⟨rfl, rfl, rfl, rfl, by decide⟩ rfl xT_move (fun _ _ _ => trivial) 3 rfl rfl rfl hl.1 rfl (Nat.le_of_ble_eq_true rfl) dX10_beside_83 ⟨Nat.le_of_ble_eq_true rfl, Nat.le_of_ble_eq_true rfl⟩ (fun r_43 _ H locs hw hK1 hP hD hS => ?_)
                have hP : va_P D vwCl [(m_steps, Sum.inl (y_steps, 400, Sum.inl f_steps)), (h0, Sum.inr (9, [Value.ref m_tape, Value.int (nI ln), Value.int s_thrown, Value.ref m_rule, Value.ref m_rules, Value.int (nI sn), Value.ref m_stair, Value.int s_readStairs, Value.int s_fault, Value.int s_faultPlace, Value.int (nI w), Value.int (nI h), Value.ref m_low, Value.ref m_high, Value.ref m_crack, Value.int (nI bc), Value.ref m_weight, Value.ref m_fire, Value.ref m_crowd, Value.ref m_state, Value.ref m_where, Value.int s_hours, Value.int s_fees, Value.int s_looks, Value.ref m_words, Value.int s_end, Value.int s_next, Value.int s_kind, Value.int s_which, Value.int s_place, Value.int s_read, Value.ref m_told, Value.ref m_breaks, Value.ref m_row, Value.ref m_tried, Value.ref m_steps, Value.ref m_paths])), (m_low, Sum.inl (y_low, 100, Sum.inl f_low)), (m_crack, Sum.inl (y_crack, 100, Sum.inl f_crack))] H := hP
                have hD : va_D A [(m_steps, Sum.inl (y_steps, 400, Sum.inl f_steps)), (h0, Sum.inr (9, [Value.ref m_tape, Value.int (nI ln), Value.int s_thrown, Value.ref m_rule, Value.ref m_rules, Value.int (nI sn), Value.ref m_stair, Value.int s_readStairs, Value.int s_fault, Value.int s_faultPlace, Value.int (nI w), Value.int (nI h), Value.ref m_low, Value.ref m_high, Value.ref m_crack, Value.int (nI bc), Value.ref m_weight, Value.ref m_fire, Value.ref m_crowd, Value.ref m_state, Value.ref m_where, Value.int s_hours, Value.int s_fees, Value.int s_looks, Value.ref m_words, Value.int s_end, Value.int s_next, Value.int s_kind, Value.int s_which, Value.int s_place, Value.int s_read, Value.ref m_told, Value.ref m_breaks, Value.ref m_row, Value.ref m_tried, Value.ref m_steps, Value.ref m_paths])), (m_low, Sum.inl (y_low, 100, Sum.inl f_low)), (m_crack, Sum.inl (y_crack, 100, Sum.inl f_crack))] := hD
                have hw_44 : r_43 = 0 ∨ r_43 = 1 := hw
                refine lv_if_eq (tgt := 132) hx hb dX10_beside_86 (by decide) (fun c_45 => ?_) (fun c_45 => ?_)
                · skip
                  refine lv_iinc (v := nI (kq + 1)) (lv' := [(5, Value.int (nI (kq + 1))), (7, Value.int (nI j_39)), (6, Value.int (nI i_38)), (0, Value.ref h0), (1, Value.int (nI si)), (2, Value.int x), (3, Value.int y), (4, Value.int (nI bq))]) hx hb dX10_beside_132 hl (k := 7) rfl (nI_add kq 1) (by decide) rfl (fun ls hl => ?_)
                  refine lv_goto (tgt := 8) hx hb dX10_beside_135 (by decide) ?_
                  exact ih bq (kq + 1) (by omega) (by omega) (by omega) hsp (by omega) (by omega) (by omega) H locs (hP.sub [1, 0, 2, 3] rfl) (hD.sub [1, 0, 2, 3] (by decide) rfl) hS ls (lv_sub hl [3, 4, 5, 6, 7, 0] rfl)
                · skip
                  refine lv_aload_n hx hb dX10_beside_89 rfl (lv_at hl 2 rfl) ?_
                  refine va_get (D := D) (ci := 9) (v := Value.ref m_steps) (C := RX10) (T := TX10) (N := 37) hx hb hts inG_X10 hown hK hP 1 rfl rfl 35 (by decide) (hts _ kw_4_230) (fun _ h9 => h9) rfl dX10_beside_90 ?_
                  refine lv_bipush (v := 100) hx hb dX10_beside_93 (by decide) ?_
                  refine lv_iload_n hx hb dX10_beside_95 rfl (lv_at hl 3 rfl) ?_
                  refine lv_imul hx hb dX10_beside_96 ?_
                  refine lv_topi (fun z_46 ez_46 => ?_)
                  obtain rfl : z_46 = nI (100 * si) := ez_46.trans (pk_mul 100 si)
                  refine lv_bipush (v := 10) hx hb dX10_beside_97 (by decide) ?_
                  refine lv_iload hx hb dX10_beside_99 (lv_at hl 0 rfl) ?_
                  refine lv_imul hx hb dX10_beside_101 ?_
                  refine lv_topi (fun z_47 ez_47 => ?_)
                  obtain rfl : z_47 = nI (10 * j_39) := ez_47.trans (pk_mul 10 j_39)
                  refine lv_iadd hx hb dX10_beside_102 ?_
                  refine lv_topi (fun z_48 ez_48 => ?_)
                  obtain rfl : z_48 = nI (100 * si + 10 * j_39) := ez_48.trans (nI_add (100 * si) (10 * j_39))
                  refine lv_iload hx hb dX10_beside_103 (lv_at hl 1 rfl) ?_
                  refine lv_iadd hx hb dX10_beside_105 ?_
                  refine lv_topi (fun z_49 ez_49 => ?_)
                  obtain rfl : z_49 = nI (100 * si + 10 * j_39 + i_38) := ez_49.trans (nI_add (100 * si + 10 * j_39) i_38)
                  refine m_iald hx hb hK hP 0 0 rfl rfl (100 * si + 10 * j_39 + i_38) rfl (by omega) (by decide) dX10_beside_106 ?_
                  refine lv_topi (fun v_50 ev_50 => ?_)
                  obtain ⟨q_51, hq_51, Eq_51⟩ := hsp (100 * si + 10 * j_39 + i_38) (by omega)
                  obtain rfl : v_50 = nI q_51 := ev_50.trans Eq_51
                  refine lv_iload hx hb dX10_beside_107 (lv_at hl 6 rfl) ?_
                  refine lv_icmp_ge (tgt := 132) hx hb dX10_beside_109 (by decide) (fun c_52 => ?_) (fun c_52 => ?_)
                  · skip
                    have c_52n : bq ≤ q_51 := (nI_leI (by omega) (by omega)).mp c_52
                    have c_52 := Int32.not_lt.mpr c_52
                    refine lv_iinc (v := nI (kq + 1)) (lv' := [(5, Value.int (nI (kq + 1))), (7, Value.int (nI j_39)), (6, Value.int (nI i_38)), (0, Value.ref h0), (1, Value.int (nI si)), (2, Value.int x), (3, Value.int y), (4, Value.int (nI bq))]) hx hb dX10_beside_132 hl (k := 7) rfl (nI_add kq 1) (by decide) rfl (fun ls hl => ?_)
                    refine lv_goto (tgt := 8) hx hb dX10_beside_135 (by decide) ?_
                    exact ih bq (kq + 1) (by omega) (by omega) (by omega) hsp (by omega) (by omega) (by omega) H locs (hP.sub [1, 0, 2, 3] rfl) (hD.sub [1, 0, 2, 3] (by decide) rfl) hS ls (lv_sub hl [3, 4, 5, 6, 7, 0] rfl)
                  · skip
                    have c_52n : q_51 < bq := nb_le (by omega) (by omega) c_52
                    have c_52 := Int32.not_le.mp c_52
                    refine lv_aload_n hx hb dX10_beside_112 rfl (lv_at hl 2 rfl) ?_
                    refine va_get (D := D) (ci := 9) (v := Value.ref m_steps) (C := RX10) (T := TX10) (N := 37) hx hb hts inG_X10 hown hK hP 1 rfl rfl 35 (by decide) (hts _ kw_4_230) (fun _ h9 => h9) rfl dX10_beside_113 ?_
                    refine lv_bipush (v := 100) hx hb dX10_beside_116 (by decide) ?_
                    refine lv_iload_n hx hb dX10_beside_118 rfl (lv_at hl 3 rfl) ?_
                    refine lv_imul hx hb dX10_beside_119 ?_
                    refine lv_topi (fun z_53 ez_53 => ?_)
                    obtain rfl : z_53 = nI (100 * si) := ez_53.trans (pk_mul 100 si)
                    refine lv_bipush (v := 10) hx hb dX10_beside_120 (by decide) ?_
                    refine lv_iload hx hb dX10_beside_122 (lv_at hl 0 rfl) ?_
                    refine lv_imul hx hb dX10_beside_124 ?_
                    refine lv_topi (fun z_54 ez_54 => ?_)
                    obtain rfl : z_54 = nI (10 * j_39) := ez_54.trans (pk_mul 10 j_39)
                    refine lv_iadd hx hb dX10_beside_125 ?_
                    refine lv_topi (fun z_55 ez_55 => ?_)
                    obtain rfl : z_55 = nI (100 * si + 10 * j_39) := ez_55.trans (nI_add (100 * si) (10 * j_39))
                    refine lv_iload hx hb dX10_beside_126 (lv_at hl 1 rfl) ?_
                    refine lv_iadd hx hb dX10_beside_128 ?_
                    refine lv_topi (fun z_56 ez_56 => ?_)
                    obtain rfl : z_56 = nI (100 * si + 10 * j_39 + i_38) := ez_56.trans (nI_add (100 * si + 10 * j_39) i_38)
                    refine m_iald hx hb hK hP 0 0 rfl rfl (100 * si + 10 * j_39 + i_38) rfl (by omega) (by decide) dX10_beside_129 ?_
                    refine lv_topi (fun v_57 ev_57 => ?_)
                    obtain ⟨q_58, hq_58, Eq_58⟩ := hsp (100 * si + 10 * j_39 + i_38) (by omega)
                    obtain rfl : v_57 = nI q_58 := ev_57.trans Eq_58
                    refine lv_istore (lv' := [(4, Value.int (nI q_58)), (7, Value.int (nI j_39)), (6, Value.int (nI i_38)), (0, Value.ref h0), (1, Value.int (nI si)), (2, Value.int x), (3, Value.int y), (5, Value.int (nI kq))]) hx hb dX10_beside_130 hl (by decide) rfl (fun ls hl => ?_)
                    refine lv_iinc (v := nI (kq + 1)) (lv' := [(5, Value.int (nI (kq + 1))), (4, Value.int (nI q_58)), (7, Value.int (nI j_39)), (6, Value.int (nI i_38)), (0, Value.ref h0), (1, Value.int (nI si)), (2, Value.int x), (3, Value.int y)]) hx hb dX10_beside_132 hl (k := 7) rfl (nI_add kq 1) (by decide) rfl (fun ls hl => ?_)
                    refine lv_goto (tgt := 8) hx hb dX10_beside_135 (by decide) ?_
                    exact ih q_58 (kq + 1) (by omega) (by omega) (by omega) hsp (by omega) (by omega) (by omega) H locs (hP.sub [1, 0, 2, 3] rfl) (hD.sub [1, 0, 2, 3] (by decide) rfl) hS ls (lv_sub hl [4, 5, 6, 7, 1, 0] rfl)
          · skip
            have c_5n : kq = 2 := (nI_eq (by omega) (by omega)).mp c_5
            refine lv_iconst (v := 1) hx hb dX10_beside_45 (by decide) ?_
            refine lv_goto (tgt := 60) hx hb dX10_beside_46 (by decide) ?_
            refine lv_iadd hx hb dX10_beside_60 ?_
            refine lv_topi (fun z_59 ez_59 => ?_)
            refine lv_istore (lv' := [(7, Value.int z_59), (6, Value.int z_4), (0, Value.ref h0), (1, Value.int (nI si)), (2, Value.int x), (3, Value.int y), (4, Value.int (nI bq)), (5, Value.int (nI kq))]) hx hb dX10_beside_61 hl (by decide) rfl (fun ls hl => ?_)
            refine lv_aload_n hx hb dX10_beside_63 rfl (lv_at hl 2 rfl) ?_
            refine lv_iload hx hb dX10_beside_64 (lv_at hl 1 rfl) ?_
            refine lv_iload hx hb dX10_beside_66 (lv_at hl 0 rfl) ?_
            refine mc_Vi (rest := []) (wr := [(m_steps, Sum.inl (y_steps, 400, Sum.inl f_steps)), (m_low, Sum.inl (y_low, 100, Sum.inl f_low)), (m_crack, Sum.inl (y_crack, 100, Sum.inl f_crack))]) F hK hP hD hS hA (n_isCell l D h0 m_tape ln s_thrown m_rule m_rules sn m_stair s_readStairs s_fault s_faultPlace w h m_low m_high m_crack bc m_weight m_fire m_crowd m_state m_where s_hours s_fees s_looks m_words s_end s_next s_kind s_which s_place s_read m_told m_breaks m_row m_tried m_steps m_paths z_4 z_59 (by omega) (by omega)) ⟨gk_X10_155.1, gk_X10_155.2, Nat.le_of_ble_eq_true rfl, Nat.le_of_ble_eq_true rfl⟩ [0] [1, 2, 3] [] ⟨rfl, rfl, rfl, rfl, by decide⟩ rfl xT_move (fun _ _ _ => trivial) 0 rfl rfl rfl hl.1 rfl (Nat.le_of_ble_eq_true rfl) dX10_beside_68 ⟨Nat.le_of_ble_eq_true rfl, Nat.le_of_ble_eq_true rfl⟩ (fun r_60 _ H locs hw hK1 hP hD hS => ?_)
            have hP : va_P D vwCl [(m_steps, Sum.inl (y_steps, 400, Sum.inl f_steps)), (m_low, Sum.inl (y_low, 100, Sum.inl f_low)), (m_crack, Sum.inl (y_crack, 100, Sum.inl f_crack)), (h0, Sum.inr (9, [Value.ref m_tape, Value.int (nI ln), Value.int s_thrown, Value.ref m_rule, Value.ref m_rules, Value.int (nI sn), Value.ref m_stair, Value.int s_readStairs, Value.int s_fault, Value.int s_faultPlace, Value.int (nI w), Value.int (nI h), Value.ref m_low, Value.ref m_high, Value.ref m_crack, Value.int (nI bc), Value.ref m_weight, Value.ref m_fire, Value.ref m_crowd, Value.ref m_state, Value.ref m_where, Value.int s_hours, Value.int s_fees, Value.int s_looks, Value.ref m_words, Value.int s_end, Value.int s_next, Value.int s_kind, Value.int s_which, Value.int s_place, Value.int s_read, Value.ref m_told, Value.ref m_breaks, Value.ref m_row, Value.ref m_tried, Value.ref m_steps, Value.ref m_paths]))] H := hP
            have hD : va_D A [(m_steps, Sum.inl (y_steps, 400, Sum.inl f_steps)), (m_low, Sum.inl (y_low, 100, Sum.inl f_low)), (m_crack, Sum.inl (y_crack, 100, Sum.inl f_crack)), (h0, Sum.inr (9, [Value.ref m_tape, Value.int (nI ln), Value.int s_thrown, Value.ref m_rule, Value.ref m_rules, Value.int (nI sn), Value.ref m_stair, Value.int s_readStairs, Value.int s_fault, Value.int s_faultPlace, Value.int (nI w), Value.int (nI h), Value.ref m_low, Value.ref m_high, Value.ref m_crack, Value.int (nI bc), Value.ref m_weight, Value.ref m_fire, Value.ref m_crowd, Value.ref m_state, Value.ref m_where, Value.int s_hours, Value.int s_fees, Value.int s_looks, Value.ref m_words, Value.int s_end, Value.int s_next, Value.int s_kind, Value.int s_which, Value.int s_place, Value.int s_read, Value.ref m_told, Value.ref m_breaks, Value.ref m_row, Value.ref m_tried, Value.ref m_steps, Value.ref m_paths]))] := hD
            have hw_61 : r_60 = (if (z_4 < 0 ∨ ¬ z_4 < nI w ∨ z_59 < 0 ∨ ¬ z_59 < nI h) then 0 else 1) := hw
            by_cases ho_62 : (z_4 < 0 ∨ ¬ z_4 < nI w ∨ z_59 < 0 ∨ ¬ z_59 < nI h)
            · skip
              obtain rfl : r_60 = 0 := by rw [hw_61, if_pos ho_62]
              refine lv_if_eq (tgt := 132) hx hb dX10_beside_71 (by decide) (fun c_63 => ?_) (fun c_63 => absurd c_63 (by decide))
              refine lv_iinc (v := nI (kq + 1)) (lv' := [(5, Value.int (nI (kq + 1))), (7, Value.int z_59), (6, Value.int z_4), (0, Value.ref h0), (1, Value.int (nI si)), (2, Value.int x), (3, Value.int y), (4, Value.int (nI bq))]) hx hb dX10_beside_132 hl (k := 7) rfl (nI_add kq 1) (by decide) rfl (fun ls hl => ?_)
              refine lv_goto (tgt := 8) hx hb dX10_beside_135 (by decide) ?_
              exact ih bq (kq + 1) (by omega) (by omega) (by omega) hsp (by omega) (by omega) (by omega) H locs (hP.sub [3, 0, 1, 2] rfl) (hD.sub [3, 0, 1, 2] (by decide) rfl) hS ls (lv_sub hl [3, 4, 5, 6, 7, 0] rfl)
            · skip
              obtain rfl : r_60 = 1 := by rw [hw_61, if_neg ho_62]
              obtain ⟨i_64, hi_64, ei_64⟩ : ∃ j : Nat, j < w ∧ z_4 = nI j := n_lt (fun q => ho_62 (Or.inl q)) (fun q => ho_62 (Or.inr (Or.inl (Int32.not_lt.mpr q)))) (by omega)
              obtain ⟨j_65, hj_65, ej_65⟩ : ∃ j : Nat, j < h ∧ z_59 = nI j := n_lt (fun q => ho_62 (Or.inr (Or.inr (Or.inl q)))) (fun q => ho_62 (Or.inr (Or.inr (Or.inr (Int32.not_lt.mpr q))))) (by omega)
              subst ei_64
              subst ej_65
              have hl : lv_has ls 8 [(7, Value.int (nI j_65)), (6, Value.int (nI i_64)), (0, Value.ref h0), (1, Value.int (nI si)), (2, Value.int x), (3, Value.int y), (4, Value.int (nI bq)), (5, Value.int (nI kq))] := hl
              refine lv_if_eq (tgt := 132) hx hb dX10_beside_71 (by decide) (fun c_66 => absurd c_66 (by decide)) (fun c_66 => ?_)
              refine lv_aload_n hx hb dX10_beside_74 rfl (lv_at hl 2 rfl) ?_
              refine lv_bipush (v := 10) hx hb dX10_beside_75 (by decide) ?_
              refine lv_iload hx hb dX10_beside_77 (lv_at hl 0 rfl) ?_
              refine lv_imul hx hb dX10_beside_79 ?_
              refine lv_topi (fun z_67 ez_67 => ?_)
              obtain rfl : z_67 = nI (10 * j_65) := ez_67.trans (pk_mul 10 j_65)
              refine lv_iload hx hb dX10_beside_80 (lv_at hl 1 rfl) ?_
              refine lv_iadd hx hb dX10_beside_82 ?_
              refine lv_topi (fun z_68 ez_68 => ?_)
              obtain rfl : z_68 = nI (10 * j_65 + i_64) := ez_68.trans (nI_add (10 * j_65) i_64)
              refine mc_Vi (rest := []) (wr := [(m_steps, Sum.inl (y_steps, 400, Sum.inl f_steps))]) F hK hP hD hS hA (n_isOpen l D h0 m_tape ln s_thrown m_rule m_rules sn m_stair s_readStairs s_fault s_faultPlace w h m_low m_high m_crack bc m_weight m_fire m_crowd m_state m_where s_hours s_fees s_looks m_words s_end s_next s_kind s_which s_place s_read m_told m_breaks m_row m_tried m_steps m_paths y_low f_low y_crack f_crack (10 * j_65 + i_64) (by omega)) ⟨gk_X10_174.1, gk_X10_174.2, Nat.le_of_ble_eq_true rfl, Nat.le_of_ble_eq_true rfl⟩ [3, 1, 2] [0] [1, 2] ⟨rfl, rfl, rfl, rfl, by decide⟩ rfl xT_move (fun _ _ _ => trivial) 3 rfl rfl rfl hl.1 rfl (Nat.le_of_ble_eq_true rfl) dX10_beside_83 ⟨Nat.le_of_ble_eq_true rfl, Nat.le_of_ble_eq_true rfl⟩ (fun r_69 _ H locs hw hK1 hP hD hS => ?_)
              have hP : va_P D vwCl [(m_steps, Sum.inl (y_steps, 400, Sum.inl f_steps)), (h0, Sum.inr (9, [Value.ref m_tape, Value.int (nI ln), Value.int s_thrown, Value.ref m_rule, Value.ref m_rules, Value.int (nI sn), Value.ref m_stair, Value.int s_readStairs, Value.int s_fault, Value.int s_faultPlace, Value.int (nI w), Value.int (nI h), Value.ref m_low, Value.ref m_high, Value.ref m_crack, Value.int (nI bc), Value.ref m_weight, Value.ref m_fire, Value.ref m_crowd, Value.ref m_state, Value.ref m_where, Value.int s_hours, Value.int s_fees, Value.int s_looks, Value.ref m_words, Value.int s_end, Value.int s_next, Value.int s_kind, Value.int s_which, Value.int s_place, Value.int s_read, Value.ref m_told, Value.ref m_breaks, Value.ref m_row, Value.ref m_tried, Value.ref m_steps, Value.ref m_paths])), (m_low, Sum.inl (y_low, 100, Sum.inl f_low)), (m_crack, Sum.inl (y_crack, 100, Sum.inl f_crack))] H := hP
              have hD : va_D A [(m_steps, Sum.inl (y_steps, 400, Sum.inl f_steps)), (h0, Sum.inr (9, [Value.ref m_tape, Value.int (nI ln), Value.int s_thrown, Value.ref m_rule, Value.ref m_rules, Value.int (nI sn), Value.ref m_stair, Value.int s_readStairs, Value.int s_fault, Value.int s_faultPlace, Value.int (nI w), Value.int (nI h), Value.ref m_low, Value.ref m_high, Value.ref m_crack, Value.int (nI bc), Value.ref m_weight, Value.ref m_fire, Value.ref m_crowd, Value.ref m_state, Value.ref m_where, Value.int s_hours, Value.int s_fees, Value.int s_looks, Value.ref m_words, Value.int s_end, Value.int s_next, Value.int s_kind, Value.int s_which, Value.int s_place, Value.int s_read, Value.ref m_told, Value.ref m_breaks, Value.ref m_row, Value.ref m_tried, Value.ref m_steps, Value.ref m_paths])), (m_low, Sum.inl (y_low, 100, Sum.inl f_low)), (m_crack, Sum.inl (y_crack, 100, Sum.inl f_crack))] := hD
              have hw_70 : r_69 = 0 ∨ r_69 = 1 := hw
              refine lv_if_eq (tgt := 132) hx hb dX10_beside_86 (by decide) (fun c_71 => ?_) (fun c_71 => ?_)
              · skip
                refine lv_iinc (v := nI (kq + 1)) (lv' := [(5, Value.int (nI (kq + 1))), (7, Value.int (nI j_65)), (6, Value.int (nI i_64)), (0, Value.ref h0), (1, Value.int (nI si)), (2, Value.int x), (3, Value.int y), (4, Value.int (nI bq))]) hx hb dX10_beside_132 hl (k := 7) rfl (nI_add kq 1) (by decide) rfl (fun ls hl => ?_)
                refine lv_goto (tgt := 8) hx hb dX10_beside_135 (by decide) ?_
                exact ih bq (kq + 1) (by omega) (by omega) (by omega) hsp (by omega) (by omega) (by omega) H locs (hP.sub [1, 0, 2, 3] rfl) (hD.sub [1, 0, 2, 3] (by decide) rfl) hS ls (lv_sub hl [3, 4, 5, 6, 7, 0] rfl)
              · skip
                refine lv_aload_n hx hb dX10_beside_89 rfl (lv_at hl 2 rfl) ?_
                refine va_get (D := D) (ci := 9) (v := Value.ref m_steps) (C := RX10) (T := TX10) (N := 37) hx hb hts inG_X10 hown hK hP 1 rfl rfl 35 (by decide) (hts _ kw_4_230) (fun _ h9 => h9) rfl dX10_beside_90 ?_
                refine lv_bipush (v := 100) hx hb dX10_beside_93 (by decide) ?_
                refine lv_iload_n hx hb dX10_beside_95 rfl (lv_at hl 3 rfl) ?_
                refine lv_imul hx hb dX10_beside_96 ?_
                refine lv_topi (fun z_72 ez_72 => ?_)
                obtain rfl : z_72 = nI (100 * si) := ez_72.trans (pk_mul 100 si)
                refine lv_bipush (v := 10) hx hb dX10_beside_97 (by decide) ?_
                refine lv_iload hx hb dX10_beside_99 (lv_at hl 0 rfl) ?_
                refine lv_imul hx hb dX10_beside_101 ?_
                refine lv_topi (fun z_73 ez_73 => ?_)
                obtain rfl : z_73 = nI (10 * j_65) := ez_73.trans (pk_mul 10 j_65)
                refine lv_iadd hx hb dX10_beside_102 ?_
                refine lv_topi (fun z_74 ez_74 => ?_)
                obtain rfl : z_74 = nI (100 * si + 10 * j_65) := ez_74.trans (nI_add (100 * si) (10 * j_65))
                refine lv_iload hx hb dX10_beside_103 (lv_at hl 1 rfl) ?_
                refine lv_iadd hx hb dX10_beside_105 ?_
                refine lv_topi (fun z_75 ez_75 => ?_)
                obtain rfl : z_75 = nI (100 * si + 10 * j_65 + i_64) := ez_75.trans (nI_add (100 * si + 10 * j_65) i_64)
                refine m_iald hx hb hK hP 0 0 rfl rfl (100 * si + 10 * j_65 + i_64) rfl (by omega) (by decide) dX10_beside_106 ?_
                refine lv_topi (fun v_76 ev_76 => ?_)
                obtain ⟨q_77, hq_77, Eq_77⟩ := hsp (100 * si + 10 * j_65 + i_64) (by omega)
                obtain rfl : v_76 = nI q_77 := ev_76.trans Eq_77
                refine lv_iload hx hb dX10_beside_107 (lv_at hl 6 rfl) ?_
                refine lv_icmp_ge (tgt := 132) hx hb dX10_beside_109 (by decide) (fun c_78 => ?_) (fun c_78 => ?_)
                · skip
                  have c_78n : bq ≤ q_77 := (nI_leI (by omega) (by omega)).mp c_78
                  have c_78 := Int32.not_lt.mpr c_78
                  refine lv_iinc (v := nI (kq + 1)) (lv' := [(5, Value.int (nI (kq + 1))), (7, Value.int (nI j_65)), (6, Value.int (nI i_64)), (0, Value.ref h0), (1, Value.int (nI si)), (2, Value.int x), (3, Value.int y), (4, Value.int (nI bq))]) hx hb dX10_beside_132 hl (k := 7) rfl (nI_add kq 1) (by decide) rfl (fun ls hl => ?_)
                  refine lv_goto (tgt := 8) hx hb dX10_beside_135 (by decide) ?_
                  exact ih bq (kq + 1) (by omega) (by omega) (by omega) hsp (by omega) (by omega) (by omega) H locs (hP.sub [1, 0, 2, 3] rfl) (hD.sub [1, 0, 2, 3] (by decide) rfl) hS ls (lv_sub hl [3, 4, 5, 6, 7, 0] rfl)
                · skip
                  have c_78n : q_77 < bq := nb_le (by omega) (by omega) c_78
                  have c_78 := Int32.not_le.mp c_78
                  refine lv_aload_n hx hb dX10_beside_112 rfl (lv_at hl 2 rfl) ?_
                  refine va_get (D := D) (ci := 9) (v := Value.ref m_steps) (C := RX10) (T := TX10) (N := 37) hx hb hts inG_X10 hown hK hP 1 rfl rfl 35 (by decide) (hts _ kw_4_230) (fun _ h9 => h9) rfl dX10_beside_113 ?_
                  refine lv_bipush (v := 100) hx hb dX10_beside_116 (by decide) ?_
                  refine lv_iload_n hx hb dX10_beside_118 rfl (lv_at hl 3 rfl) ?_
                  refine lv_imul hx hb dX10_beside_119 ?_
                  refine lv_topi (fun z_79 ez_79 => ?_)
                  obtain rfl : z_79 = nI (100 * si) := ez_79.trans (pk_mul 100 si)
                  refine lv_bipush (v := 10) hx hb dX10_beside_120 (by decide) ?_
                  refine lv_iload hx hb dX10_beside_122 (lv_at hl 0 rfl) ?_
                  refine lv_imul hx hb dX10_beside_124 ?_
                  refine lv_topi (fun z_80 ez_80 => ?_)
                  obtain rfl : z_80 = nI (10 * j_65) := ez_80.trans (pk_mul 10 j_65)
                  refine lv_iadd hx hb dX10_beside_125 ?_
                  refine lv_topi (fun z_81 ez_81 => ?_)
                  obtain rfl : z_81 = nI (100 * si + 10 * j_65) := ez_81.trans (nI_add (100 * si) (10 * j_65))
                  refine lv_iload hx hb dX10_beside_126 (lv_at hl 1 rfl) ?_
                  refine lv_iadd hx hb dX10_beside_128 ?_
                  refine lv_topi (fun z_82 ez_82 => ?_)
                  obtain rfl : z_82 = nI (100 * si + 10 * j_65 + i_64) := ez_82.trans (nI_add (100 * si + 10 * j_65) i_64)
                  refine m_iald hx hb hK hP 0 0 rfl rfl (100 * si + 10 * j_65 + i_64) rfl (by omega) (by decide) dX10_beside_129 ?_
                  refine lv_topi (fun v_83 ev_83 => ?_)
                  obtain ⟨q_84, hq_84, Eq_84⟩ := hsp (100 * si + 10 * j_65 + i_64) (by omega)
                  obtain rfl : v_83 = nI q_84 := ev_83.trans Eq_84
                  refine lv_istore (lv' := [(4, Value.int (nI q_84)), (7, Value.int (nI j_65)), (6, Value.int (nI i_64)), (0, Value.ref h0), (1, Value.int (nI si)), (2, Value.int x), (3, Value.int y), (5, Value.int (nI kq))]) hx hb dX10_beside_130 hl (by decide) rfl (fun ls hl => ?_)
                  refine lv_iinc (v := nI (kq + 1)) (lv' := [(5, Value.int (nI (kq + 1))), (4, Value.int (nI q_84)), (7, Value.int (nI j_65)), (6, Value.int (nI i_64)), (0, Value.ref h0), (1, Value.int (nI si)), (2, Value.int x), (3, Value.int y)]) hx hb dX10_beside_132 hl (k := 7) rfl (nI_add kq 1) (by decide) rfl (fun ls hl => ?_)
                  refine lv_goto (tgt := 8) hx hb dX10_beside_135 (by decide) ?_
                  exact ih q_84 (kq + 1) (by omega) (by omega) (by omega) hsp (by omega) (by omega) (by omega) H locs (hP.sub [1, 0, 2, 3] rfl) (hD.sub [1, 0, 2, 3] (by decide) rfl) hS ls (lv_sub hl [4, 5, 6, 7, 1, 0] rfl)
        · skip
          have c_3n : kq = 1 := (nI_eq (by omega) (by omega)).mp c_3
          refine lv_iconst (v := -1) hx hb dX10_beside_30 (by decide) ?_
          refine lv_goto (tgt := 35) hx hb dX10_beside_31 (by decide) ?_
          refine lv_iadd hx hb dX10_beside_35 ?_
          refine lv_topi (fun z_85 ez_85 => ?_)
          refine lv_istore (lv' := [(6, Value.int z_85), (0, Value.ref h0), (1, Value.int (nI si)), (2, Value.int x), (3, Value.int y), (4, Value.int (nI bq)), (5, Value.int (nI kq))]) hx hb dX10_beside_36 hl (by decide) rfl (fun ls hl => ?_)
          refine lv_iload_n hx hb dX10_beside_38 rfl (lv_at hl 4 rfl) ?_
          refine lv_iload hx hb dX10_beside_39 (lv_at hl 6 rfl) ?_
          refine lv_iconst (v := 2) hx hb dX10_beside_41 (by decide) ?_
          refine lv_icmp_ne (tgt := 49) hx hb dX10_beside_42 (by decide) (fun c_86 => ?_) (fun c_86 => ?_)
          · skip
            have c_86n : ¬ kq = 2 := nb_eq (by omega) (by omega) c_86
            refine lv_iload hx hb dX10_beside_49 (lv_at hl 6 rfl) ?_
            refine lv_iconst (v := 3) hx hb dX10_beside_51 (by decide) ?_
            refine lv_icmp_ne (tgt := 59) hx hb dX10_beside_52 (by decide) (fun c_87 => ?_) (fun c_87 => ?_)
            · skip
              have c_87n : ¬ kq = 3 := nb_eq (by omega) (by omega) c_87
              refine lv_iconst (v := 0) hx hb dX10_beside_59 (by decide) ?_
              refine lv_iadd hx hb dX10_beside_60 ?_
              refine lv_topi (fun z_88 ez_88 => ?_)
              refine lv_istore (lv' := [(7, Value.int z_88), (6, Value.int z_85), (0, Value.ref h0), (1, Value.int (nI si)), (2, Value.int x), (3, Value.int y), (4, Value.int (nI bq)), (5, Value.int (nI kq))]) hx hb dX10_beside_61 hl (by decide) rfl (fun ls hl => ?_)
              refine lv_aload_n hx hb dX10_beside_63 rfl (lv_at hl 2 rfl) ?_
              refine lv_iload hx hb dX10_beside_64 (lv_at hl 1 rfl) ?_
              refine lv_iload hx hb dX10_beside_66 (lv_at hl 0 rfl) ?_
              refine mc_Vi (rest := []) (wr := [(m_steps, Sum.inl (y_steps, 400, Sum.inl f_steps)), (m_low, Sum.inl (y_low, 100, Sum.inl f_low)), (m_crack, Sum.inl (y_crack, 100, Sum.inl f_crack))]) F hK hP hD hS hA (n_isCell l D h0 m_tape ln s_thrown m_rule m_rules sn m_stair s_readStairs s_fault s_faultPlace w h m_low m_high m_crack bc m_weight m_fire m_crowd m_state m_where s_hours s_fees s_looks m_words s_end s_next s_kind s_which s_place s_read m_told m_breaks m_row m_tried m_steps m_paths z_85 z_88 (by omega) (by omega)) ⟨gk_X10_155.1, gk_X10_155.2, Nat.le_of_ble_eq_true rfl, Nat.le_of_ble_eq_true rfl⟩ [0] [1, 2, 3] [] ⟨rfl, rfl, rfl, rfl, by decide⟩ rfl xT_move (fun _ _ _ => trivial) 0 rfl rfl rfl hl.1 rfl (Nat.le_of_ble_eq_true rfl) dX10_beside_68 ⟨Nat.le_of_ble_eq_true rfl, Nat.le_of_ble_eq_true rfl⟩ (fun r_89 _ H locs hw hK1 hP hD hS => ?_)
              have hP : va_P D vwCl [(m_steps, Sum.inl (y_steps, 400, Sum.inl f_steps)), (m_low, Sum.inl (y_low, 100, Sum.inl f_low)), (m_crack, Sum.inl (y_crack, 100, Sum.inl f_crack)), (h0, Sum.inr (9, [Value.ref m_tape, Value.int (nI ln), Value.int s_thrown, Value.ref m_rule, Value.ref m_rules, Value.int (nI sn), Value.ref m_stair, Value.int s_readStairs, Value.int s_fault, Value.int s_faultPlace, Value.int (nI w), Value.int (nI h), Value.ref m_low, Value.ref m_high, Value.ref m_crack, Value.int (nI bc), Value.ref m_weight, Value.ref m_fire, Value.ref m_crowd, Value.ref m_state, Value.ref m_where, Value.int s_hours, Value.int s_fees, Value.int s_looks, Value.ref m_words, Value.int s_end, Value.int s_next, Value.int s_kind, Value.int s_which, Value.int s_place, Value.int s_read, Value.ref m_told, Value.ref m_breaks, Value.ref m_row, Value.ref m_tried, Value.ref m_steps, Value.ref m_paths]))] H := hP
              have hD : va_D A [(m_steps, Sum.inl (y_steps, 400, Sum.inl f_steps)), (m_low, Sum.inl (y_low, 100, Sum.inl f_low)), (m_crack, Sum.inl (y_crack, 100, Sum.inl f_crack)), (h0, Sum.inr (9, [Value.ref m_tape, Value.int (nI ln), Value.int s_thrown, Value.ref m_rule, Value.ref m_rules, Value.int (nI sn), Value.ref m_stair, Value.int s_readStairs, Value.int s_fault, Value.int s_faultPlace, Value.int (nI w), Value.int (nI h), Value.ref m_low, Value.ref m_high, Value.ref m_crack, Value.int (nI bc), Value.ref m_weight, Value.ref m_fire, Value.ref m_crowd, Value.ref m_state, Value.ref m_where, Value.int s_hours, Value.int s_fees, Value.int s_looks, Value.ref m_words, Value.int s_end, Value.int s_next, Value.int s_kind, Value.int s_which, Value.int s_place, Value.int s_read, Value.ref m_told, Value.ref m_breaks, Value.ref m_row, Value.ref m_tried, Value.ref m_steps, Value.ref m_paths]))] := hD
              have hw_90 : r_89 = (if (z_85 < 0 ∨ ¬ z_85 < nI w ∨ z_88 < 0 ∨ ¬ z_88 < nI h) then 0 else 1) := hw
              by_cases ho_91 : (z_85 < 0 ∨ ¬ z_85 < nI w ∨ z_88 < 0 ∨ ¬ z_88 < nI h)
              · skip
                obtain rfl : r_89 = 0 := by rw [hw_90, if_pos ho_91]
                refine lv_if_eq (tgt := 132) hx hb dX10_beside_71 (by decide) (fun c_92 => ?_) (fun c_92 => absurd c_92 (by decide))
                refine lv_iinc (v := nI (kq + 1)) (lv' := [(5, Value.int (nI (kq + 1))), (7, Value.int z_88), (6, Value.int z_85), (0, Value.ref h0), (1, Value.int (nI si)), (2, Value.int x), (3, Value.int y), (4, Value.int (nI bq))]) hx hb dX10_beside_132 hl (k := 7) rfl (nI_add kq 1) (by decide) rfl (fun ls hl => ?_)
                refine lv_goto (tgt := 8) hx hb dX10_beside_135 (by decide) ?_
                exact ih bq (kq + 1) (by omega) (by omega) (by omega) hsp (by omega) (by omega) (by omega) H locs (hP.sub [3, 0, 1, 2] rfl) (hD.sub [3, 0, 1, 2] (by decide) rfl) hS ls (lv_sub hl [3, 4, 5, 6, 7, 0] rfl)
              · skip
                obtain rfl : r_89 = 1 := by rw [hw_90, if_neg ho_91]
                obtain ⟨i_93, hi_93, ei_93⟩ : ∃ j : Nat, j < w ∧ z_85 = nI j := n_lt (fun q => ho_91 (Or.inl q)) (fun q => ho_91 (Or.inr (Or.inl (Int32.not_lt.mpr q)))) (by omega)
                obtain ⟨j_94, hj_94, ej_94⟩ : ∃ j : Nat, j < h ∧ z_88 = nI j := n_lt (fun q => ho_91 (Or.inr (Or.inr (Or.inl q)))) (fun q => ho_91 (Or.inr (Or.inr (Or.inr (Int32.not_lt.mpr q))))) (by omega)
                subst ei_93
                subst ej_94
                have hl : lv_has ls 8 [(7, Value.int (nI j_94)), (6, Value.int (nI i_93)), (0, Value.ref h0), (1, Value.int (nI si)), (2, Value.int x), (3, Value.int y), (4, Value.int (nI bq)), (5, Value.int (nI kq))] := hl
                refine lv_if_eq (tgt := 132) hx hb dX10_beside_71 (by decide) (fun c_95 => absurd c_95 (by decide)) (fun c_95 => ?_)
                refine lv_aload_n hx hb dX10_beside_74 rfl (lv_at hl 2 rfl) ?_
                refine lv_bipush (v := 10) hx hb dX10_beside_75 (by decide) ?_
                refine lv_iload hx hb dX10_beside_77 (lv_at hl 0 rfl) ?_
                refine lv_imul hx hb dX10_beside_79 ?_
                refine lv_topi (fun z_96 ez_96 => ?_)
                obtain rfl : z_96 = nI (10 * j_94) := ez_96.trans (pk_mul 10 j_94)
                refine lv_iload hx hb dX10_beside_80 (lv_at hl 1 rfl) ?_
                refine lv_iadd hx hb dX10_beside_82 ?_
                refine lv_topi (fun z_97 ez_97 => ?_)
                obtain rfl : z_97 = nI (10 * j_94 + i_93) := ez_97.trans (nI_add (10 * j_94) i_93)
                refine mc_Vi (rest := []) (wr := [(m_steps, Sum.inl (y_steps, 400, Sum.inl f_steps))]) F hK hP hD hS hA (n_isOpen l D h0 m_tape ln s_thrown m_rule m_rules sn m_stair s_readStairs s_fault s_faultPlace w h m_low m_high m_crack bc m_weight m_fire m_crowd m_state m_where s_hours s_fees s_looks m_words s_end s_next s_kind s_which s_place s_read m_told m_breaks m_row m_tried m_steps m_paths y_low f_low y_crack f_crack (10 * j_94 + i_93) (by omega)) ⟨gk_X10_174.1, gk_X10_174.2, Nat.le_of_ble_eq_true rfl, Nat.le_of_ble_eq_true rfl⟩ [3, 1, 2] [0] [1, 2] ⟨rfl, rfl, rfl, rfl, by decide⟩ rfl xT_move (fun _ _ _ => trivial) 3 rfl rfl rfl hl.1 rfl (Nat.le_of_ble_eq_true rfl) dX10_beside_83 ⟨Nat.le_of_ble_eq_true rfl, Nat.le_of_ble_eq_true rfl⟩ (fun r_98 _ H locs hw hK1 hP hD hS => ?_)
                have hP : va_P D vwCl [(m_steps, Sum.inl (y_steps, 400, Sum.inl f_steps)), (h0, Sum.inr (9, [Value.ref m_tape, Value.int (nI ln), Value.int s_thrown, Value.ref m_rule, Value.ref m_rules, Value.int (nI sn), Value.ref m_stair, Value.int s_readStairs, Value.int s_fault, Value.int s_faultPlace, Value.int (nI w), Value.int (nI h), Value.ref m_low, Value.ref m_high, Value.ref m_crack, Value.int (nI bc), Value.ref m_weight, Value.ref m_fire, Value.ref m_crowd, Value.ref m_state, Value.ref m_where, Value.int s_hours, Value.int s_fees, Value.int s_looks, Value.ref m_words, Value.int s_end, Value.int s_next, Value.int s_kind, Value.int s_which, Value.int s_place, Value.int s_read, Value.ref m_told, Value.ref m_breaks, Value.ref m_row, Value.ref m_tried, Value.ref m_steps, Value.ref m_paths])), (m_low, Sum.inl (y_low, 100, Sum.inl f_low)), (m_crack, Sum.inl (y_crack, 100, Sum.inl f_crack))] H := hP
                have hD : va_D A [(m_steps, Sum.inl (y_steps, 400, Sum.inl f_steps)), (h0, Sum.inr (9, [Value.ref m_tape, Value.int (nI ln), Value.int s_thrown, Value.ref m_rule, Value.ref m_rules, Value.int (nI sn), Value.ref m_stair, Value.int s_readStairs, Value.int s_fault, Value.int s_faultPlace, Value.int (nI w), Value.int (nI h), Value.ref m_low, Value.ref m_high, Value.ref m_crack, Value.int (nI bc), Value.ref m_weight, Value.ref m_fire, Value.ref m_crowd, Value.ref m_state, Value.ref m_where, Value.int s_hours, Value.int s_fees, Value.int s_looks, Value.ref m_words, Value.int s_end, Value.int s_next, Value.int s_kind, Value.int s_which, Value.int s_place, Value.int s_read, Value.ref m_told, Value.ref m_breaks, Value.ref m_row, Value.ref m_tried, Value.ref m_steps, Value.ref m_paths])), (m_low, Sum.inl (y_low, 100, Sum.inl f_low)), (m_crack, Sum.inl (y_crack, 100, Sum.inl f_crack))] := hD
                have hw_99 : r_98 = 0 ∨ r_98 = 1 := hw
                refine lv_if_eq (tgt := 132) hx hb dX10_beside_86 (by decide) (fun c_100 => ?_) (fun c_100 => ?_)
                · skip
                  refine lv_iinc (v := nI (kq + 1)) (lv' := [(5, Value.int (nI (kq + 1))), (7, Value.int (nI j_94)), (6, Value.int (nI i_93)), (0, Value.ref h0), (1, Value.int (nI si)), (2, Value.int x), (3, Value.int y), (4, Value.int (nI bq))]) hx hb dX10_beside_132 hl (k := 7) rfl (nI_add kq 1) (by decide) rfl (fun ls hl => ?_)
                  refine lv_goto (tgt := 8) hx hb dX10_beside_135 (by decide) ?_
                  exact ih bq (kq + 1) (by omega) (by omega) (by omega) hsp (by omega) (by omega) (by omega) H locs (hP.sub [1, 0, 2, 3] rfl) (hD.sub [1, 0, 2, 3] (by decide) rfl) hS ls (lv_sub hl [3, 4, 5, 6, 7, 0] rfl)
                · skip
                  refine lv_aload_n hx hb dX10_beside_89 rfl (lv_at hl 2 rfl) ?_
                  refine va_get (D := D) (ci := 9) (v := Value.ref m_steps) (C := RX10) (T := TX10) (N := 37) hx hb hts inG_X10 hown hK hP 1 rfl rfl 35 (by decide) (hts _ kw_4_230) (fun _ h9 => h9) rfl dX10_beside_90 ?_
                  refine lv_bipush (v := 100) hx hb dX10_beside_93 (by decide) ?_
                  refine lv_iload_n hx hb dX10_beside_95 rfl (lv_at hl 3 rfl) ?_
                  refine lv_imul hx hb dX10_beside_96 ?_
                  refine lv_topi (fun z_101 ez_101 => ?_)
                  obtain rfl : z_101 = nI (100 * si) := ez_101.trans (pk_mul 100 si)
                  refine lv_bipush (v := 10) hx hb dX10_beside_97 (by decide) ?_
                  refine lv_iload hx hb dX10_beside_99 (lv_at hl 0 rfl) ?_
                  refine lv_imul hx hb dX10_beside_101 ?_
                  refine lv_topi (fun z_102 ez_102 => ?_)
                  obtain rfl : z_102 = nI (10 * j_94) := ez_102.trans (pk_mul 10 j_94)
                  refine lv_iadd hx hb dX10_beside_102 ?_
                  refine lv_topi (fun z_103 ez_103 => ?_)
                  obtain rfl : z_103 = nI (100 * si + 10 * j_94) := ez_103.trans (nI_add (100 * si) (10 * j_94))
                  refine lv_iload hx hb dX10_beside_103 (lv_at hl 1 rfl) ?_
                  refine lv_iadd hx hb dX10_beside_105 ?_
                  refine lv_topi (fun z_104 ez_104 => ?_)
                  obtain rfl : z_104 = nI (100 * si + 10 * j_94 + i_93) := ez_104.trans (nI_add (100 * si + 10 * j_94) i_93)
                  refine m_iald hx hb hK hP 0 0 rfl rfl (100 * si + 10 * j_94 + i_93) rfl (by omega) (by decide) dX10_beside_106 ?_
                  refine lv_topi (fun v_105 ev_105 => ?_)
                  obtain ⟨q_106, hq_106, Eq_106⟩ := hsp (100 * si + 10 * j_94 + i_93) (by omega)
                  obtain rfl : v_105 = nI q_106 := ev_105.trans Eq_106
                  refine lv_iload hx hb dX10_beside_107 (lv_at hl 6 rfl) ?_
                  refine lv_icmp_ge (tgt := 132) hx hb dX10_beside_109 (by decide) (fun c_107 => ?_) (fun c_107 => ?_)
                  · skip
                    have c_107n : bq ≤ q_106 := (nI_leI (by omega) (by omega)).mp c_107
                    have c_107 := Int32.not_lt.mpr c_107
                    refine lv_iinc (v := nI (kq + 1)) (lv' := [(5, Value.int (nI (kq + 1))), (7, Value.int (nI j_94)), (6, Value.int (nI i_93)), (0, Value.ref h0), (1, Value.int (nI si)), (2, Value.int x), (3, Value.int y), (4, Value.int (nI bq))]) hx hb dX10_beside_132 hl (k := 7) rfl (nI_add kq 1) (by decide) rfl (fun ls hl => ?_)
                    refine lv_goto (tgt := 8) hx hb dX10_beside_135 (by decide) ?_
                    exact ih bq (kq + 1) (by omega) (by omega) (by omega) hsp (by omega) (by omega) (by omega) H locs (hP.sub [1, 0, 2, 3] rfl) (hD.sub [1, 0, 2, 3] (by decide) rfl) hS ls (lv_sub hl [3, 4, 5, 6, 7, 0] rfl)
                  · skip
                    have c_107n : q_106 < bq := nb_le (by omega) (by omega) c_107
                    have c_107 := Int32.not_le.mp c_107
                    refine lv_aload_n hx hb dX10_beside_112 rfl (lv_at hl 2 rfl) ?_
                    refine va_get (D := D) (ci := 9) (v := Value.ref m_steps) (C := RX10) (T := TX10) (N := 37) hx hb hts inG_X10 hown hK hP 1 rfl rfl 35 (by decide) (hts _ kw_4_230) (fun _ h9 => h9) rfl dX10_beside_113 ?_
                    refine lv_bipush (v := 100) hx hb dX10_beside_116 (by decide) ?_
                    refine lv_iload_n hx hb dX10_beside_118 rfl (lv_at hl 3 rfl) ?_
                    refine lv_imul hx hb dX10_beside_119 ?_
                    refine lv_topi (fun z_108 ez_108 => ?_)
                    obtain rfl : z_108 = nI (100 * si) := ez_108.trans (pk_mul 100 si)
                    refine lv_bipush (v := 10) hx hb dX10_beside_120 (by decide) ?_
                    refine lv_iload hx hb dX10_beside_122 (lv_at hl 0 rfl) ?_
                    refine lv_imul hx hb dX10_beside_124 ?_
                    refine lv_topi (fun z_109 ez_109 => ?_)
                    obtain rfl : z_109 = nI (10 * j_94) := ez_109.trans (pk_mul 10 j_94)
                    refine lv_iadd hx hb dX10_beside_125 ?_
                    refine lv_topi (fun z_110 ez_110 => ?_)
                    obtain rfl : z_110 = nI (100 * si + 10 * j_94) := ez_110.trans (nI_add (100 * si) (10 * j_94))
                    refine lv_iload hx hb dX10_beside_126 (lv_at hl 1 rfl) ?_
                    refine lv_iadd hx hb dX10_beside_128 ?_
                    refine lv_topi (fun z_111 ez_111 => ?_)
                    obtain rfl : z_111 = nI (100 * si + 10 * j_94 + i_93) := ez_111.trans (nI_add (100 * si + 10 * j_94) i_93)
                    refine m_iald hx hb hK hP 0 0 rfl rfl (100 * si + 10 * j_94 + i_93) rfl (by omega) (by decide) dX10_beside_129 ?_
                    refine lv_topi (fun v_112 ev_112 => ?_)
                    obtain ⟨q_113, hq_113, Eq_113⟩ := hsp (100 * si + 10 * j_94 + i_93) (by omega)
                    obtain rfl : v_112 = nI q_113 := ev_112.trans Eq_113
                    refine lv_istore (lv' := [(4, Value.int (nI q_113)), (7, Value.int (nI j_94)), (6, Value.int (nI i_93)), (0, Value.ref h0), (1, Value.int (nI si)), (2, Value.int x), (3, Value.int y), (5, Value.int (nI kq))]) hx hb dX10_beside_130 hl (by decide) rfl (fun ls hl => ?_)
                    refine lv_iinc (v := nI (kq + 1)) (lv' := [(5, Value.int (nI (kq + 1))), (4, Value.int (nI q_113)), (7, Value.int (nI j_94)), (6, Value.int (nI i_93)), (0, Value.ref h0), (1, Value.int (nI si)), (2, Value.int x), (3, Value.int y)]) hx hb dX10_beside_132 hl (k := 7) rfl (nI_add kq 1) (by decide) rfl (fun ls hl => ?_)
                    refine lv_goto (tgt := 8) hx hb dX10_beside_135 (by decide) ?_
                    exact ih q_113 (kq + 1) (by omega) (by omega) (by omega) hsp (by omega) (by omega) (by omega) H locs (hP.sub [1, 0, 2, 3] rfl) (hD.sub [1, 0, 2, 3] (by decide) rfl) hS ls (lv_sub hl [4, 5, 6, 7, 1, 0] rfl)
            · skip
              have c_87n : kq = 3 := (nI_eq (by omega) (by omega)).mp c_87
              refine lv_iconst (v := -1) hx hb dX10_beside_55 (by decide) ?_
              refine lv_goto (tgt := 60) hx hb dX10_beside_56 (by decide) ?_
              refine lv_iadd hx hb dX10_beside_60 ?_
              refine lv_topi (fun z_114 ez_114 => ?_)
              refine lv_istore (lv' := [(7, Value.int z_114), (6, Value.int z_85), (0, Value.ref h0), (1, Value.int (nI si)), (2, Value.int x), (3, Value.int y), (4, Value.int (nI bq)), (5, Value.int (nI kq))]) hx hb dX10_beside_61 hl (by decide) rfl (fun ls hl => ?_)
              refine lv_aload_n hx hb dX10_beside_63 rfl (lv_at hl 2 rfl) ?_
              refine lv_iload hx hb dX10_beside_64 (lv_at hl 1 rfl) ?_
              refine lv_iload hx hb dX10_beside_66 (lv_at hl 0 rfl) ?_
              refine mc_Vi (rest := []) (wr := [(m_steps, Sum.inl (y_steps, 400, Sum.inl f_steps)), (m_low, Sum.inl (y_low, 100, Sum.inl f_low)), (m_crack, Sum.inl (y_crack, 100, Sum.inl f_crack))]) F hK hP hD hS hA (n_isCell l D h0 m_tape ln s_thrown m_rule m_rules sn m_stair s_readStairs s_fault s_faultPlace w h m_low m_high m_crack bc m_weight m_fire m_crowd m_state m_where s_hours s_fees s_looks m_words s_end s_next s_kind s_which s_place s_read m_told m_breaks m_row m_tried m_steps m_paths z_85 z_114 (by omega) (by omega)) ⟨gk_X10_155.1, gk_X10_155.2, Nat.le_of_ble_eq_true rfl, Nat.le_of_ble_eq_true rfl⟩ [0] [1, 2, 3] [] ⟨rfl, rfl, rfl, rfl, by decide⟩ rfl xT_move (fun _ _ _ => trivial) 0 rfl rfl rfl hl.1 rfl (Nat.le_of_ble_eq_true rfl) dX10_beside_68 ⟨Nat.le_of_ble_eq_true rfl, Nat.le_of_ble_eq_true rfl⟩ (fun r_115 _ H locs hw hK1 hP hD hS => ?_)
              have hP : va_P D vwCl [(m_steps, Sum.inl (y_steps, 400, Sum.inl f_steps)), (m_low, Sum.inl (y_low, 100, Sum.inl f_low)), (m_crack, Sum.inl (y_crack, 100, Sum.inl f_crack)), (h0, Sum.inr (9, [Value.ref m_tape, Value.int (nI ln), Value.int s_thrown, Value.ref m_rule, Value.ref m_rules, Value.int (nI sn), Value.ref m_stair, Value.int s_readStairs, Value.int s_fault, Value.int s_faultPlace, Value.int (nI w), Value.int (nI h), Value.ref m_low, Value.ref m_high, Value.ref m_crack, Value.int (nI bc), Value.ref m_weight, Value.ref m_fire, Value.ref m_crowd, Value.ref m_state, Value.ref m_where, Value.int s_hours, Value.int s_fees, Value.int s_looks, Value.ref m_words, Value.int s_end, Value.int s_next, Value.int s_kind, Value.int s_which, Value.int s_place, Value.int s_read, Value.ref m_told, Value.ref m_breaks, Value.ref m_row, Value.ref m_tried, Value.ref m_steps, Value.ref m_paths]))] H := hP
              have hD : va_D A [(m_steps, Sum.inl (y_steps, 400, Sum.inl f_steps)), (m_low, Sum.inl (y_low, 100, Sum.inl f_low)), (m_crack, Sum.inl (y_crack, 100, Sum.inl f_crack)), (h0, Sum.inr (9, [Value.ref m_tape, Value.int (nI ln), Value.int s_thrown, Value.ref m_rule, Value.ref m_rules, Value.int (nI sn), Value.ref m_stair, Value.int s_readStairs, Value.int s_fault, Value.int s_faultPlace, Value.int (nI w), Value.int (nI h), Value.ref m_low, Value.ref m_high, Value.ref m_crack, Value.int (nI bc), Value.ref m_weight, Value.ref m_fire, Value.ref m_crowd, Value.ref m_state, Value.ref m_where, Value.int s_hours, Value.int s_fees, Value.int s_looks, Value.ref m_words, Value.int s_end, Value.int s_next, Value.int s_kind, Value.int s_which, Value.int s_place, Value.int s_read, Value.ref m_told, Value.ref m_breaks, Value.ref m_row, Value.ref m_tried, Value.ref m_steps, Value.ref m_paths]))] := hD
              have hw_116 : r_115 = (if (z_85 < 0 ∨ ¬ z_85 < nI w ∨ z_114 < 0 ∨ ¬ z_114 < nI h) then 0 else 1) := hw
              by_cases ho_117 : (z_85 < 0 ∨ ¬ z_85 < nI w ∨ z_114 < 0 ∨ ¬ z_114 < nI h)
              · skip
                obtain rfl : r_115 = 0 := by rw [hw_116, if_pos ho_117]
                refine lv_if_eq (tgt := 132) hx hb dX10_beside_71 (by decide) (fun c_118 => ?_) (fun c_118 => absurd c_118 (by decide))
                refine lv_iinc (v := nI (kq + 1)) (lv' := [(5, Value.int (nI (kq + 1))), (7, Value.int z_114), (6, Value.int z_85), (0, Value.ref h0), (1, Value.int (nI si)), (2, Value.int x), (3, Value.int y), (4, Value.int (nI bq))]) hx hb dX10_beside_132 hl (k := 7) rfl (nI_add kq 1) (by decide) rfl (fun ls hl => ?_)
                refine lv_goto (tgt := 8) hx hb dX10_beside_135 (by decide) ?_
                exact ih bq (kq + 1) (by omega) (by omega) (by omega) hsp (by omega) (by omega) (by omega) H locs (hP.sub [3, 0, 1, 2] rfl) (hD.sub [3, 0, 1, 2] (by decide) rfl) hS ls (lv_sub hl [3, 4, 5, 6, 7, 0] rfl)
              · skip
                obtain rfl : r_115 = 1 := by rw [hw_116, if_neg ho_117]
                obtain ⟨i_119, hi_119, ei_119⟩ : ∃ j : Nat, j < w ∧ z_85 = nI j := n_lt (fun q => ho_117 (Or.inl q)) (fun q => ho_117 (Or.inr (Or.inl (Int32.not_lt.mpr q)))) (by omega)
                obtain ⟨j_120, hj_120, ej_120⟩ : ∃ j : Nat, j < h ∧ z_114 = nI j := n_lt (fun q => ho_117 (Or.inr (Or.inr (Or.inl q)))) (fun q => ho_117 (Or.inr (Or.inr (Or.inr (Int32.not_lt.mpr q))))) (by omega)
                subst ei_119
                subst ej_120
                have hl : lv_has ls 8 [(7, Value.int (nI j_120)), (6, Value.int (nI i_119)), (0, Value.ref h0), (1, Value.int (nI si)), (2, Value.int x), (3, Value.int y), (4, Value.int (nI bq)), (5, Value.int (nI kq))] := hl
                refine lv_if_eq (tgt := 132) hx hb dX10_beside_71 (by decide) (fun c_121 => absurd c_121 (by decide)) (fun c_121 => ?_)
                refine lv_aload_n hx hb dX10_beside_74 rfl (lv_at hl 2 rfl) ?_
                refine lv_bipush (v := 10) hx hb dX10_beside_75 (by decide) ?_
                refine lv_iload hx hb dX10_beside_77 (lv_at hl 0 rfl) ?_
                refine lv_imul hx hb dX10_beside_79 ?_
                refine lv_topi (fun z_122 ez_122 => ?_)
                obtain rfl : z_122 = nI (10 * j_120) := ez_122.trans (pk_mul 10 j_120)
                refine lv_iload hx hb dX10_beside_80 (lv_at hl 1 rfl) ?_
                refine lv_iadd hx hb dX10_beside_82 ?_
                refine lv_topi (fun z_123 ez_123 => ?_)
                obtain rfl : z_123 = nI (10 * j_120 + i_119) := ez_123.trans (nI_add (10 * j_120) i_119)
                refine mc_Vi (rest := []) (wr := [(m_steps, Sum.inl (y_steps, 400, Sum.inl f_steps))]) F hK hP hD hS hA (n_isOpen l D h0 m_tape ln s_thrown m_rule m_rules sn m_stair s_readStairs s_fault s_faultPlace w h m_low m_high m_crack bc m_weight m_fire m_crowd m_state m_where s_hours s_fees s_looks m_words s_end s_next s_kind s_which s_place s_read m_told m_breaks m_row m_tried m_steps m_paths y_low f_low y_crack f_crack (10 * j_120 + i_119) (by omega)) ⟨gk_X10_174.1, gk_X10_174.2, Nat.le_of_ble_eq_true rfl, Nat.le_of_ble_eq_true rfl⟩ [3, 1, 2] [0] [1, 2] ⟨rfl, rfl, rfl, rfl, by decide⟩ rfl xT_move (fun _ _ _ => trivial) 3 rfl rfl rfl hl.1 rfl (Nat.le_of_ble_eq_true rfl) dX10_beside_83 ⟨Nat.le_of_ble_eq_true rfl, Nat.le_of_ble_eq_true rfl⟩ (fun r_124 _ H locs hw hK1 hP hD hS => ?_)
                have hP : va_P D vwCl [(m_steps, Sum.inl (y_steps, 400, Sum.inl f_steps)), (h0, Sum.inr (9, [Value.ref m_tape, Value.int (nI ln), Value.int s_thrown, Value.ref m_rule, Value.ref m_rules, Value.int (nI sn), Value.ref m_stair, Value.int s_readStairs, Value.int s_fault, Value.int s_faultPlace, Value.int (nI w), Value.int (nI h), Value.ref m_low, Value.ref m_high, Value.ref m_crack, Value.int (nI bc), Value.ref m_weight, Value.ref m_fire, Value.ref m_crowd, Value.ref m_state, Value.ref m_where, Value.int s_hours, Value.int s_fees, Value.int s_looks, Value.ref m_words, Value.int s_end, Value.int s_next, Value.int s_kind, Value.int s_which, Value.int s_place, Value.int s_read, Value.ref m_told, Value.ref m_breaks, Value.ref m_row, Value.ref m_tried, Value.ref m_steps, Value.ref m_paths])), (m_low, Sum.inl (y_low, 100, Sum.inl f_low)), (m_crack, Sum.inl (y_crack, 100, Sum.inl f_crack))] H := hP
                have hD : va_D A [(m_steps, Sum.inl (y_steps, 400, Sum.inl f_steps)), (h0, Sum.inr (9, [Value.ref m_tape, Value.int (nI ln), Value.int s_thrown, Value.ref m_rule, Value.ref m_rules, Value.int (nI sn), Value.ref m_stair, Value.int s_readStairs, Value.int s_fault, Value.int s_faultPlace, Value.int (nI w), Value.int (nI h), Value.ref m_low, Value.ref m_high, Value.ref m_crack, Value.int (nI bc), Value.ref m_weight, Value.ref m_fire, Value.ref m_crowd, Value.ref m_state, Value.ref m_where, Value.int s_hours, Value.int s_fees, Value.int s_looks, Value.ref m_words, Value.int s_end, Value.int s_next, Value.int s_kind, Value.int s_which, Value.int s_place, Value.int s_read, Value.ref m_told, Value.ref m_breaks, Value.ref m_row, Value.ref m_tried, Value.ref m_steps, Value.ref m_paths])), (m_low, Sum.inl (y_low, 100, Sum.inl f_low)), (m_crack, Sum.inl (y_crack, 100, Sum.inl f_crack))] := hD
                have hw_125 : r_124 = 0 ∨ r_124 = 1 := hw
                refine lv_if_eq (tgt := 132) hx hb dX10_beside_86 (by decide) (fun c_126 => ?_) (fun c_126 => ?_)
                · skip
                  refine lv_iinc (v := nI (kq + 1)) (lv' := [(5, Value.int (nI (kq + 1))), (7, Value.int (nI j_120)), (6, Value.int (nI i_119)), (0, Value.ref h0), (1, Value.int (nI si)), (2, Value.int x), (3, Value.int y), (4, Value.int (nI bq))]) hx hb dX10_beside_132 hl (k := 7) rfl (nI_add kq 1) (by decide) rfl (fun ls hl => ?_)
                  refine lv_goto (tgt := 8) hx hb dX10_beside_135 (by decide) ?_
                  exact ih bq (kq + 1) (by omega) (by omega) (by omega) hsp (by omega) (by omega) (by omega) H locs (hP.sub [1, 0, 2, 3] rfl) (hD.sub [1, 0, 2, 3] (by decide) rfl) hS ls (lv_sub hl [3, 4, 5, 6, 7, 0] rfl)
                · skip
                  refine lv_aload_n hx hb dX10_beside_89 rfl (lv_at hl 2 rfl) ?_
                  refine va_get (D := D) (ci := 9) (v := Value.ref m_steps) (C := RX10) (T := TX10) (N := 37) hx hb hts inG_X10 hown hK hP 1 rfl rfl 35 (by decide) (hts _ kw_4_230) (fun _ h9 => h9) rfl dX10_beside_90 ?_
                  refine lv_bipush (v := 100) hx hb dX10_beside_93 (by decide) ?_
                  refine lv_iload_n hx hb dX10_beside_95 rfl (lv_at hl 3 rfl) ?_
                  refine lv_imul hx hb dX10_beside_96 ?_
                  refine lv_topi (fun z_127 ez_127 => ?_)
                  obtain rfl : z_127 = nI (100 * si) := ez_127.trans (pk_mul 100 si)
                  refine lv_bipush (v := 10) hx hb dX10_beside_97 (by decide) ?_
                  refine lv_iload hx hb dX10_beside_99 (lv_at hl 0 rfl) ?_
                  refine lv_imul hx hb dX10_beside_101 ?_
                  refine lv_topi (fun z_128 ez_128 => ?_)
                  obtain rfl : z_128 = nI (10 * j_120) := ez_128.trans (pk_mul 10 j_120)
                  refine lv_iadd hx hb dX10_beside_102 ?_
                  refine lv_topi (fun z_129 ez_129 => ?_)
                  obtain rfl : z_129 = nI (100 * si + 10 * j_120) := ez_129.trans (nI_add (100 * si) (10 * j_120))
                  refine lv_iload hx hb dX10_beside_103 (lv_at hl 1 rfl) ?_
                  refine lv_iadd hx hb dX10_beside_105 ?_
                  refine lv_topi (fun z_130 ez_130 => ?_)
                  obtain rfl : z_130 = nI (100 * si + 10 * j_120 + i_119) := ez_130.trans (nI_add (100 * si + 10 * j_120) i_119)
                  refine m_iald hx hb hK hP 0 0 rfl rfl (100 * si + 10 * j_120 + i_119) rfl (by omega) (by decide) dX10_beside_106 ?_
                  refine lv_topi (fun v_131 ev_131 => ?_)
                  obtain ⟨q_132, hq_132, Eq_132⟩ := hsp (100 * si + 10 * j_120 + i_119) (by omega)
                  obtain rfl : v_131 = nI q_132 := ev_131.trans Eq_132
                  refine lv_iload hx hb dX10_beside_107 (lv_at hl 6 rfl) ?_
                  refine lv_icmp_ge (tgt := 132) hx hb dX10_beside_109 (by decide) (fun c_133 => ?_) (fun c_133 => ?_)
                  · skip
                    have c_133n : bq ≤ q_132 := (nI_leI (by omega) (by omega)).mp c_133
                    have c_133 := Int32.not_lt.mpr c_133
                    refine lv_iinc (v := nI (kq + 1)) (lv' := [(5, Value.int (nI (kq + 1))), (7, Value.int (nI j_120)), (6, Value.int (nI i_119)), (0, Value.ref h0), (1, Value.int (nI si)), (2, Value.int x), (3, Value.int y), (4, Value.int (nI bq))]) hx hb dX10_beside_132 hl (k := 7) rfl (nI_add kq 1) (by decide) rfl (fun ls hl => ?_)
                    refine lv_goto (tgt := 8) hx hb dX10_beside_135 (by decide) ?_
                    exact ih bq (kq + 1) (by omega) (by omega) (by omega) hsp (by omega) (by omega) (by omega) H locs (hP.sub [1, 0, 2, 3] rfl) (hD.sub [1, 0, 2, 3] (by decide) rfl) hS ls (lv_sub hl [3, 4, 5, 6, 7, 0] rfl)
                  · skip
                    have c_133n : q_132 < bq := nb_le (by omega) (by omega) c_133
                    have c_133 := Int32.not_le.mp c_133
                    refine lv_aload_n hx hb dX10_beside_112 rfl (lv_at hl 2 rfl) ?_
                    refine va_get (D := D) (ci := 9) (v := Value.ref m_steps) (C := RX10) (T := TX10) (N := 37) hx hb hts inG_X10 hown hK hP 1 rfl rfl 35 (by decide) (hts _ kw_4_230) (fun _ h9 => h9) rfl dX10_beside_113 ?_
                    refine lv_bipush (v := 100) hx hb dX10_beside_116 (by decide) ?_
                    refine lv_iload_n hx hb dX10_beside_118 rfl (lv_at hl 3 rfl) ?_
                    refine lv_imul hx hb dX10_beside_119 ?_
                    refine lv_topi (fun z_134 ez_134 => ?_)
                    obtain rfl : z_134 = nI (100 * si) := ez_134.trans (pk_mul 100 si)
                    refine lv_bipush (v := 10) hx hb dX10_beside_120 (by decide) ?_
                    refine lv_iload hx hb dX10_beside_122 (lv_at hl 0 rfl) ?_
                    refine lv_imul hx hb dX10_beside_124 ?_
                    refine lv_topi (fun z_135 ez_135 => ?_)
                    obtain rfl : z_135 = nI (10 * j_120) := ez_135.trans (pk_mul 10 j_120)
                    refine lv_iadd hx hb dX10_beside_125 ?_
                    refine lv_topi (fun z_136 ez_136 => ?_)
                    obtain rfl : z_136 = nI (100 * si + 10 * j_120) := ez_136.trans (nI_add (100 * si) (10 * j_120))
                    refine lv_iload hx hb dX10_beside_126 (lv_at hl 1 rfl) ?_
                    refine lv_iadd hx hb dX10_beside_128 ?_
                    refine lv_topi (fun z_137 ez_137 => ?_)
                    obtain rfl : z_137 = nI (100 * si + 10 * j_120 + i_119) := ez_137.trans (nI_add (100 * si + 10 * j_120) i_119)
                    refine m_iald hx hb hK hP 0 0 rfl rfl (100 * si + 10 * j_120 + i_119) rfl (by omega) (by decide) dX10_beside_129 ?_
                    refine lv_topi (fun v_138 ev_138 => ?_)
                    obtain ⟨q_139, hq_139, Eq_139⟩ := hsp (100 * si + 10 * j_120 + i_119) (by omega)
                    obtain rfl : v_138 = nI q_139 := ev_138.trans Eq_139
                    refine lv_istore (lv' := [(4, Value.int (nI q_139)), (7, Value.int (nI j_120)), (6, Value.int (nI i_119)), (0, Value.ref h0), (1, Value.int (nI si)), (2, Value.int x), (3, Value.int y), (5, Value.int (nI kq))]) hx hb dX10_beside_130 hl (by decide) rfl (fun ls hl => ?_)
                    refine lv_iinc (v := nI (kq + 1)) (lv' := [(5, Value.int (nI (kq + 1))), (4, Value.int (nI q_139)), (7, Value.int (nI j_120)), (6, Value.int (nI i_119)), (0, Value.ref h0), (1, Value.int (nI si)), (2, Value.int x), (3, Value.int y)]) hx hb dX10_beside_132 hl (k := 7) rfl (nI_add kq 1) (by decide) rfl (fun ls hl => ?_)
                    refine lv_goto (tgt := 8) hx hb dX10_beside_135 (by decide) ?_
                    exact ih q_139 (kq + 1) (by omega) (by omega) (by omega) hsp (by omega) (by omega) (by omega) H locs (hP.sub [1, 0, 2, 3] rfl) (hD.sub [1, 0, 2, 3] (by decide) rfl) hS ls (lv_sub hl [4, 5, 6, 7, 1, 0] rfl)
          · skip
            have c_86n : kq = 2 := (nI_eq (by omega) (by omega)).mp c_86
            refine lv_iconst (v := 1) hx hb dX10_beside_45 (by decide) ?_
            refine lv_goto (tgt := 60) hx hb dX10_beside_46 (by decide) ?_
            refine lv_iadd hx hb dX10_beside_60 ?_
            refine lv_topi (fun z_140 ez_140 => ?_)
            refine lv_istore (lv' := [(7, Value.int z_140), (6, Value.int z_85), (0, Value.ref h0), (1, Value.int (nI si)), (2, Value.int x), (3, Value.int y), (4, Value.int (nI bq)), (5, Value.int (nI kq))]) hx hb dX10_beside_61 hl (by decide) rfl (fun ls hl => ?_)
            refine lv_aload_n hx hb dX10_beside_63 rfl (lv_at hl 2 rfl) ?_
            refine lv_iload hx hb dX10_beside_64 (lv_at hl 1 rfl) ?_
            refine lv_iload hx hb dX10_beside_66 (lv_at hl 0 rfl) ?_
            refine mc_Vi (rest := []) (wr := [(m_steps, Sum.inl (y_steps, 400, Sum.inl f_steps)), (m_low, Sum.inl (y_low, 100, Sum.inl f_low)), (m_crack, Sum.inl (y_crack, 100, Sum.inl f_crack))]) F hK hP hD hS hA (n_isCell l D h0 m_tape ln s_thrown m_rule m_rules sn m_stair s_readStairs s_fault s_faultPlace w h m_low m_high m_crack bc m_weight m_fire m_crowd m_state m_where s_hours s_fees s_looks m_words s_end s_next s_kind s_which s_place s_read m_told m_breaks m_row m_tried m_steps m_paths z_85 z_140 (by omega) (by omega)) ⟨gk_X10_155.1, gk_X10_155.2, Nat.le_of_ble_eq_true rfl, Nat.le_of_ble_eq_true rfl⟩ [0] [1, 2, 3] [] ⟨rfl, rfl, rfl, rfl, by decide⟩ rfl xT_move (fun _ _ _ => trivial) 0 rfl rfl rfl hl.1 rfl (Nat.le_of_ble_eq_true rfl) dX10_beside_68 ⟨Nat.le_of_ble_eq_true rfl, Nat.le_of_ble_eq_true rfl⟩ (fun r_141 _ H locs hw hK1 hP hD hS => ?_)
            have hP : va_P D vwCl [(m_steps, Sum.inl (y_steps, 400, Sum.inl f_steps)), (m_low, Sum.inl (y_low, 100, Sum.inl f_low)), (m_crack, Sum.inl (y_crack, 100, Sum.inl f_crack)), (h0, Sum.inr (9, [Value.ref m_tape, Value.int (nI ln), Value.int s_thrown, Value.ref m_rule, Value.ref m_rules, Value.int (nI sn), Value.ref m_stair, Value.int s_readStairs, Value.int s_fault, Value.int s_faultPlace, Value.int (nI w), Value.int (nI h), Value.ref m_low, Value.ref m_high, Value.ref m_crack, Value.int (nI bc), Value.ref m_weight, Value.ref m_fire, Value.ref m_crowd, Value.ref m_state, Value.ref m_where, Value.int s_hours, Value.int s_fees, Value.int s_looks, Value.ref m_words, Value.int s_end, Value.int s_next, Value.int s_kind, Value.int s_which, Value.int s_place, Value.int s_read, Value.ref m_told, Value.ref m_breaks, Value.ref m_row, Value.ref m_tried, Value.ref m_steps, Value.ref m_paths]))] H := hP
            have hD : va_D A [(m_steps, Sum.inl (y_steps, 400, Sum.inl f_steps)), (m_low, Sum.inl (y_low, 100, Sum.inl f_low)), (m_crack, Sum.inl (y_crack, 100, Sum.inl f_crack)), (h0, Sum.inr (9, [Value.ref m_tape, Value.int (nI ln), Value.int s_thrown, Value.ref m_rule, Value.ref m_rules, Value.int (nI sn), Value.ref m_stair, Value.int s_readStairs, Value.int s_fault, Value.int s_faultPlace, Value.int (nI w), Value.int (nI h), Value.ref m_low, Value.ref m_high, Value.ref m_crack, Value.int (nI bc), Value.ref m_weight, Value.ref m_fire, Value.ref m_crowd, Value.ref m_state, Value.ref m_where, Value.int s_hours, Value.int s_fees, Value.int s_looks, Value.ref m_words, Value.int s_end, Value.int s_next, Value.int s_kind, Value.int s_which, Value.int s_place, Value.int s_read, Value.ref m_told, Value.ref m_breaks, Value.ref m_row, Value.ref m_tried, Value.ref m_steps, Value.ref m_paths]))] := hD
            have hw_142 : r_141 = (if (z_85 < 0 ∨ ¬ z_85 < nI w ∨ z_140 < 0 ∨ ¬ z_140 < nI h) then 0 else 1) := hw
            by_cases ho_143 : (z_85 < 0 ∨ ¬ z_85 < nI w ∨ z_140 < 0 ∨ ¬ z_140 < nI h)
            · skip
              obtain rfl : r_141 = 0 := by rw [hw_142, if_pos ho_143]
              refine lv_if_eq (tgt := 132) hx hb dX10_beside_71 (by decide) (fun c_144 => ?_) (fun c_144 => absurd c_144 (by decide))
              refine lv_iinc (v := nI (kq + 1)) (lv' := [(5, Value.int (nI (kq + 1))), (7, Value.int z_140), (6, Value.int z_85), (0, Value.ref h0), (1, Value.int (nI si)), (2, Value.int x), (3, Value.int y), (4, Value.int (nI bq))]) hx hb dX10_beside_132 hl (k := 7) rfl (nI_add kq 1) (by decide) rfl (fun ls hl => ?_)
              refine lv_goto (tgt := 8) hx hb dX10_beside_135 (by decide) ?_
              exact ih bq (kq + 1) (by omega) (by omega) (by omega) hsp (by omega) (by omega) (by omega) H locs (hP.sub [3, 0, 1, 2] rfl) (hD.sub [3, 0, 1, 2] (by decide) rfl) hS ls (lv_sub hl [3, 4, 5, 6, 7, 0] rfl)
            · skip
              obtain rfl : r_141 = 1 := by rw [hw_142, if_neg ho_143]
              obtain ⟨i_145, hi_145, ei_145⟩ : ∃ j : Nat, j < w ∧ z_85 = nI j := n_lt (fun q => ho_143 (Or.inl q)) (fun q => ho_143 (Or.inr (Or.inl (Int32.not_lt.mpr q)))) (by omega)
              obtain ⟨j_146, hj_146, ej_146⟩ : ∃ j : Nat, j < h ∧ z_140 = nI j := n_lt (fun q => ho_143 (Or.inr (Or.inr (Or.inl q)))) (fun q => ho_143 (Or.inr (Or.inr (Or.inr (Int32.not_lt.mpr q))))) (by omega)
              subst ei_145
              subst ej_146
              have hl : lv_has ls 8 [(7, Value.int (nI j_146)), (6, Value.int (nI i_145)), (0, Value.ref h0), (1, Value.int (nI si)), (2, Value.int x), (3, Value.int y), (4, Value.int (nI bq)), (5, Value.int (nI kq))] := hl
              refine lv_if_eq (tgt := 132) hx hb dX10_beside_71 (by decide) (fun c_147 => absurd c_147 (by decide)) (fun c_147 => ?_)
              refine lv_aload_n hx hb dX10_beside_74 rfl (lv_at hl 2 rfl) ?_
              refine lv_bipush (v := 10) hx hb dX10_beside_75 (by decide) ?_
              refine lv_iload hx hb dX10_beside_77 (lv_at hl 0 rfl) ?_
              refine lv_imul hx hb dX10_beside_79 ?_
              refine lv_topi (fun z_148 ez_148 => ?_)
              obtain rfl : z_148 = nI (10 * j_146) := ez_148.trans (pk_mul 10 j_146)
              refine lv_iload hx hb dX10_beside_80 (lv_at hl 1 rfl) ?_
              refine lv_iadd hx hb dX10_beside_82 ?_
              refine lv_topi (fun z_149 ez_149 => ?_)
              obtain rfl : z_149 = nI (10 * j_146 + i_145) := ez_149.trans (nI_add (10 * j_146) i_145)
              refine mc_Vi (rest := []) (wr := [(m_steps, Sum.inl (y_steps, 400, Sum.inl f_steps))]) F hK hP hD hS hA (n_isOpen l D h0 m_tape ln s_thrown m_rule m_rules sn m_stair s_readStairs s_fault s_faultPlace w h m_low m_high m_crack bc m_weight m_fire m_crowd m_state m_where s_hours s_fees s_looks m_words s_end s_next s_kind s_which s_place s_read m_told m_breaks m_row m_tried m_steps m_paths y_low f_low y_crack f_crack (10 * j_146 + i_145) (by omega)) ⟨gk_X10_174.1, gk_X10_174.2, Nat.le_of_ble_eq_true rfl, Nat.le_of_ble_eq_true rfl⟩ [3, 1, 2] [0] [1, 2] ⟨rfl, rfl, rfl, rfl, by decide⟩ rfl xT_move (fun _ _ _ => trivial) 3 rfl rfl rfl hl.1 rfl (Nat.le_of_ble_eq_true rfl) dX10_beside_83 ⟨Nat.le_of_ble_eq_true rfl, Nat.le_of_ble_eq_true rfl⟩ (fun r_150 _ H locs hw hK1 hP hD hS => ?_)
              have hP : va_P D vwCl [(m_steps, Sum.inl (y_steps, 400, Sum.inl f_steps)), (h0, Sum.inr (9, [Value.ref m_tape, Value.int (nI ln), Value.int s_thrown, Value.ref m_rule, Value.ref m_rules, Value.int (nI sn), Value.ref m_stair, Value.int s_readStairs, Value.int s_fault, Value.int s_faultPlace, Value.int (nI w), Value.int (nI h), Value.ref m_low, Value.ref m_high, Value.ref m_crack, Value.int (nI bc), Value.ref m_weight, Value.ref m_fire, Value.ref m_crowd, Value.ref m_state, Value.ref m_where, Value.int s_hours, Value.int s_fees, Value.int s_looks, Value.ref m_words, Value.int s_end, Value.int s_next, Value.int s_kind, Value.int s_which, Value.int s_place, Value.int s_read, Value.ref m_told, Value.ref m_breaks, Value.ref m_row, Value.ref m_tried, Value.ref m_steps, Value.ref m_paths])), (m_low, Sum.inl (y_low, 100, Sum.inl f_low)), (m_crack, Sum.inl (y_crack, 100, Sum.inl f_crack))] H := hP
              have hD : va_D A [(m_steps, Sum.inl (y_steps, 400, Sum.inl f_steps)), (h0, Sum.inr (9, [Value.ref m_tape, Value.int (nI ln), Value.int s_thrown, Value.ref m_rule, Value.ref m_rules, Value.int (nI sn), Value.ref m_stair, Value.int s_readStairs, Value.int s_fault, Value.int s_faultPlace, Value.int (nI w), Value.int (nI h), Value.ref m_low, Value.ref m_high, Value.ref m_crack, Value.int (nI bc), Value.ref m_weight, Value.ref m_fire, Value.ref m_crowd, Value.ref m_state, Value.ref m_where, Value.int s_hours, Value.int s_fees, Value.int s_looks, Value.ref m_words, Value.int s_end, Value.int s_next, Value.int s_kind, Value.int s_which, Value.int s_place, Value.int s_read, Value.ref m_told, Value.ref m_breaks, Value.ref m_row, Value.ref m_tried, Value.ref m_steps, Value.ref m_paths])), (m_low, Sum.inl (y_low, 100, Sum.inl f_low)), (m_crack, Sum.inl (y_crack, 100, Sum.inl f_crack))] := hD
              have hw_151 : r_150 = 0 ∨ r_150 = 1 := hw
              refine lv_if_eq (tgt := 132) hx hb dX10_beside_86 (by decide) (fun c_152 => ?_) (fun c_152 => ?_)
              · skip
                refine lv_iinc (v := nI (kq + 1)) (lv' := [(5, Value.int (nI (kq + 1))), (7, Value.int (nI j_146)), (6, Value.int (nI i_145)), (0, Value.ref h0), (1, Value.int (nI si)), (2, Value.int x), (3, Value.int y), (4, Value.int (nI bq))]) hx hb dX10_beside_132 hl (k := 7) rfl (nI_add kq 1) (by decide) rfl (fun ls hl => ?_)
                refine lv_goto (tgt := 8) hx hb dX10_beside_135 (by decide) ?_
                exact ih bq (kq + 1) (by omega) (by omega) (by omega) hsp (by omega) (by omega) (by omega) H locs (hP.sub [1, 0, 2, 3] rfl) (hD.sub [1, 0, 2, 3] (by decide) rfl) hS ls (lv_sub hl [3, 4, 5, 6, 7, 0] rfl)
              · skip
                refine lv_aload_n hx hb dX10_beside_89 rfl (lv_at hl 2 rfl) ?_
                refine va_get (D := D) (ci := 9) (v := Value.ref m_steps) (C := RX10) (T := TX10) (N := 37) hx hb hts inG_X10 hown hK hP 1 rfl rfl 35 (by decide) (hts _ kw_4_230) (fun _ h9 => h9) rfl dX10_beside_90 ?_
                refine lv_bipush (v := 100) hx hb dX10_beside_93 (by decide) ?_
                refine lv_iload_n hx hb dX10_beside_95 rfl (lv_at hl 3 rfl) ?_
                refine lv_imul hx hb dX10_beside_96 ?_
                refine lv_topi (fun z_153 ez_153 => ?_)
                obtain rfl : z_153 = nI (100 * si) := ez_153.trans (pk_mul 100 si)
                refine lv_bipush (v := 10) hx hb dX10_beside_97 (by decide) ?_
                refine lv_iload hx hb dX10_beside_99 (lv_at hl 0 rfl) ?_
                refine lv_imul hx hb dX10_beside_101 ?_
                refine lv_topi (fun z_154 ez_154 => ?_)
                obtain rfl : z_154 = nI (10 * j_146) := ez_154.trans (pk_mul 10 j_146)
                refine lv_iadd hx hb dX10_beside_102 ?_
                refine lv_topi (fun z_155 ez_155 => ?_)
                obtain rfl : z_155 = nI (100 * si + 10 * j_146) := ez_155.trans (nI_add (100 * si) (10 * j_146))
                refine lv_iload hx hb dX10_beside_103 (lv_at hl 1 rfl) ?_
                refine lv_iadd hx hb dX10_beside_105 ?_
                refine lv_topi (fun z_156 ez_156 => ?_)
                obtain rfl : z_156 = nI (100 * si + 10 * j_146 + i_145) := ez_156.trans (nI_add (100 * si + 10 * j_146) i_145)
                refine m_iald hx hb hK hP 0 0 rfl rfl (100 * si + 10 * j_146 + i_145) rfl (by omega) (by decide) dX10_beside_106 ?_
                refine lv_topi (fun v_157 ev_157 => ?_)
                obtain ⟨q_158, hq_158, Eq_158⟩ := hsp (100 * si + 10 * j_146 + i_145) (by omega)
                obtain rfl : v_157 = nI q_158 := ev_157.trans Eq_158
                refine lv_iload hx hb dX10_beside_107 (lv_at hl 6 rfl) ?_
                refine lv_icmp_ge (tgt := 132) hx hb dX10_beside_109 (by decide) (fun c_159 => ?_) (fun c_159 => ?_)
                · skip
                  have c_159n : bq ≤ q_158 := (nI_leI (by omega) (by omega)).mp c_159
                  have c_159 := Int32.not_lt.mpr c_159
                  refine lv_iinc (v := nI (kq + 1)) (lv' := [(5, Value.int (nI (kq + 1))), (7, Value.int (nI j_146)), (6, Value.int (nI i_145)), (0, Value.ref h0), (1, Value.int (nI si)), (2, Value.int x), (3, Value.int y), (4, Value.int (nI bq))]) hx hb dX10_beside_132 hl (k := 7) rfl (nI_add kq 1) (by decide) rfl (fun ls hl => ?_)
                  refine lv_goto (tgt := 8) hx hb dX10_beside_135 (by decide) ?_
                  exact ih bq (kq + 1) (by omega) (by omega) (by omega) hsp (by omega) (by omega) (by omega) H locs (hP.sub [1, 0, 2, 3] rfl) (hD.sub [1, 0, 2, 3] (by decide) rfl) hS ls (lv_sub hl [3, 4, 5, 6, 7, 0] rfl)
                · skip
                  have c_159n : q_158 < bq := nb_le (by omega) (by omega) c_159
                  have c_159 := Int32.not_le.mp c_159
                  refine lv_aload_n hx hb dX10_beside_112 rfl (lv_at hl 2 rfl) ?_
                  refine va_get (D := D) (ci := 9) (v := Value.ref m_steps) (C := RX10) (T := TX10) (N := 37) hx hb hts inG_X10 hown hK hP 1 rfl rfl 35 (by decide) (hts _ kw_4_230) (fun _ h9 => h9) rfl dX10_beside_113 ?_
                  refine lv_bipush (v := 100) hx hb dX10_beside_116 (by decide) ?_
                  refine lv_iload_n hx hb dX10_beside_118 rfl (lv_at hl 3 rfl) ?_
                  refine lv_imul hx hb dX10_beside_119 ?_
                  refine lv_topi (fun z_160 ez_160 => ?_)
                  obtain rfl : z_160 = nI (100 * si) := ez_160.trans (pk_mul 100 si)
                  refine lv_bipush (v := 10) hx hb dX10_beside_120 (by decide) ?_
                  refine lv_iload hx hb dX10_beside_122 (lv_at hl 0 rfl) ?_
                  refine lv_imul hx hb dX10_beside_124 ?_
                  refine lv_topi (fun z_161 ez_161 => ?_)
                  obtain rfl : z_161 = nI (10 * j_146) := ez_161.trans (pk_mul 10 j_146)
                  refine lv_iadd hx hb dX10_beside_125 ?_
                  refine lv_topi (fun z_162 ez_162 => ?_)
                  obtain rfl : z_162 = nI (100 * si + 10 * j_146) := ez_162.trans (nI_add (100 * si) (10 * j_146))
                  refine lv_iload hx hb dX10_beside_126 (lv_at hl 1 rfl) ?_
                  refine lv_iadd hx hb dX10_beside_128 ?_
                  refine lv_topi (fun z_163 ez_163 => ?_)
                  obtain rfl : z_163 = nI (100 * si + 10 * j_146 + i_145) := ez_163.trans (nI_add (100 * si + 10 * j_146) i_145)
                  refine m_iald hx hb hK hP 0 0 rfl rfl (100 * si + 10 * j_146 + i_145) rfl (by omega) (by decide) dX10_beside_129 ?_
                  refine lv_topi (fun v_164 ev_164 => ?_)
                  obtain ⟨q_165, hq_165, Eq_165⟩ := hsp (100 * si + 10 * j_146 + i_145) (by omega)
                  obtain rfl : v_164 = nI q_165 := ev_164.trans Eq_165
                  refine lv_istore (lv' := [(4, Value.int (nI q_165)), (7, Value.int (nI j_146)), (6, Value.int (nI i_145)), (0, Value.ref h0), (1, Value.int (nI si)), (2, Value.int x), (3, Value.int y), (5, Value.int (nI kq))]) hx hb dX10_beside_130 hl (by decide) rfl (fun ls hl => ?_)
                  refine lv_iinc (v := nI (kq + 1)) (lv' := [(5, Value.int (nI (kq + 1))), (4, Value.int (nI q_165)), (7, Value.int (nI j_146)), (6, Value.int (nI i_145)), (0, Value.ref h0), (1, Value.int (nI si)), (2, Value.int x), (3, Value.int y)]) hx hb dX10_beside_132 hl (k := 7) rfl (nI_add kq 1) (by decide) rfl (fun ls hl => ?_)
                  refine lv_goto (tgt := 8) hx hb dX10_beside_135 (by decide) ?_
                  exact ih q_165 (kq + 1) (by omega) (by omega) (by omega) hsp (by omega) (by omega) (by omega) H locs (hP.sub [1, 0, 2, 3] rfl) (hD.sub [1, 0, 2, 3] (by decide) rfl) hS ls (lv_sub hl [4, 5, 6, 7, 1, 0] rfl)
      · skip
        have c_2n : kq = 0 := (nI_eq (by omega) (by omega)).mp c_2
        refine lv_iconst (v := 1) hx hb dX10_beside_20 (by decide) ?_
        refine lv_goto (tgt := 35) hx hb dX10_beside_21 (by decide) ?_
        refine lv_iadd hx hb dX10_beside_35 ?_
        refine lv_topi (fun z_166 ez_166 => ?_)
        refine lv_istore (lv' := [(6, Value.int z_166), (0, Value.ref h0), (1, Value.int (nI si)), (2, Value.int x), (3, Value.int y), (4, Value.int (nI bq)), (5, Value.int (nI kq))]) hx hb dX10_beside_36 hl (by decide) rfl (fun ls hl => ?_)
        refine lv_iload_n hx hb dX10_beside_38 rfl (lv_at hl 4 rfl) ?_
        refine lv_iload hx hb dX10_beside_39 (lv_at hl 6 rfl) ?_
        refine lv_iconst (v := 2) hx hb dX10_beside_41 (by decide) ?_
        refine lv_icmp_ne (tgt := 49) hx hb dX10_beside_42 (by decide) (fun c_167 => ?_) (fun c_167 => ?_)
        · skip
          have c_167n : ¬ kq = 2 := nb_eq (by omega) (by omega) c_167
          refine lv_iload hx hb dX10_beside_49 (lv_at hl 6 rfl) ?_
          refine lv_iconst (v := 3) hx hb dX10_beside_51 (by decide) ?_
          refine lv_icmp_ne (tgt := 59) hx hb dX10_beside_52 (by decide) (fun c_168 => ?_) (fun c_168 => ?_)
          · skip
            have c_168n : ¬ kq = 3 := nb_eq (by omega) (by omega) c_168
            refine lv_iconst (v := 0) hx hb dX10_beside_59 (by decide) ?_
            refine lv_iadd hx hb dX10_beside_60 ?_
            refine lv_topi (fun z_169 ez_169 => ?_)
            refine lv_istore (lv' := [(7, Value.int z_169), (6, Value.int z_166), (0, Value.ref h0), (1, Value.int (nI si)), (2, Value.int x), (3, Value.int y), (4, Value.int (nI bq)), (5, Value.int (nI kq))]) hx hb dX10_beside_61 hl (by decide) rfl (fun ls hl => ?_)
            refine lv_aload_n hx hb dX10_beside_63 rfl (lv_at hl 2 rfl) ?_
            refine lv_iload hx hb dX10_beside_64 (lv_at hl 1 rfl) ?_
            refine lv_iload hx hb dX10_beside_66 (lv_at hl 0 rfl) ?_
            refine mc_Vi (rest := []) (wr := [(m_steps, Sum.inl (y_steps, 400, Sum.inl f_steps)), (m_low, Sum.inl (y_low, 100, Sum.inl f_low)), (m_crack, Sum.inl (y_crack, 100, Sum.inl f_crack))]) F hK hP hD hS hA (n_isCell l D h0 m_tape ln s_thrown m_rule m_rules sn m_stair s_readStairs s_fault s_faultPlace w h m_low m_high m_crack bc m_weight m_fire m_crowd m_state m_where s_hours s_fees s_looks m_words s_end s_next s_kind s_which s_place s_read m_told m_breaks m_row m_tried m_steps m_paths z_166 z_169 (by omega) (by omega)) ⟨gk_X10_155.1, gk_X10_155.2, Nat.le_of_ble_eq_true rfl, Nat.le_of_ble_eq_true rfl⟩ [0] [1, 2, 3] [] ⟨rfl, rfl, rfl, rfl, by decide⟩ rfl xT_move (fun _ _ _ => trivial) 0 rfl rfl rfl hl.1 rfl (Nat.le_of_ble_eq_true rfl) dX10_beside_68 ⟨Nat.le_of_ble_eq_true rfl, Nat.le_of_ble_eq_true rfl⟩ (fun r_170 _ H locs hw hK1 hP hD hS => ?_)
            have hP : va_P D vwCl [(m_steps, Sum.inl (y_steps, 400, Sum.inl f_steps)), (m_low, Sum.inl (y_low, 100, Sum.inl f_low)), (m_crack, Sum.inl (y_crack, 100, Sum.inl f_crack)), (h0, Sum.inr (9, [Value.ref m_tape, Value.int (nI ln), Value.int s_thrown, Value.ref m_rule, Value.ref m_rules, Value.int (nI sn), Value.ref m_stair, Value.int s_readStairs, Value.int s_fault, Value.int s_faultPlace, Value.int (nI w), Value.int (nI h), Value.ref m_low, Value.ref m_high, Value.ref m_crack, Value.int (nI bc), Value.ref m_weight, Value.ref m_fire, Value.ref m_crowd, Value.ref m_state, Value.ref m_where, Value.int s_hours, Value.int s_fees, Value.int s_looks, Value.ref m_words, Value.int s_end, Value.int s_next, Value.int s_kind, Value.int s_which, Value.int s_place, Value.int s_read, Value.ref m_told, Value.ref m_breaks, Value.ref m_row, Value.ref m_tried, Value.ref m_steps, Value.ref m_paths]))] H := hP
            have hD : va_D A [(m_steps, Sum.inl (y_steps, 400, Sum.inl f_steps)), (m_low, Sum.inl (y_low, 100, Sum.inl f_low)), (m_crack, Sum.inl (y_crack, 100, Sum.inl f_crack)), (h0, Sum.inr (9, [Value.ref m_tape, Value.int (nI ln), Value.int s_thrown, Value.ref m_rule, Value.ref m_rules, Value.int (nI sn), Value.ref m_stair, Value.int s_readStairs, Value.int s_fault, Value.int s_faultPlace, Value.int (nI w), Value.int (nI h), Value.ref m_low, Value.ref m_high, Value.ref m_crack, Value.int (nI bc), Value.ref m_weight, Value.ref m_fire, Value.ref m_crowd, Value.ref m_state, Value.ref m_where, Value.int s_hours, Value.int s_fees, Value.int s_looks, Value.ref m_words, Value.int s_end, Value.int s_next, Value.int s_kind, Value.int s_which, Value.int s_place, Value.int s_read, Value.ref m_told, Value.ref m_breaks, Value.ref m_row, Value.ref m_tried, Value.ref m_steps, Value.ref m_paths]))] := hD
            have hw_171 : r_170 = (if (z_166 < 0 ∨ ¬ z_166 < nI w ∨ z_169 < 0 ∨ ¬ z_169 < nI h) then 0 else 1) := hw
            by_cases ho_172 : (z_166 < 0 ∨ ¬ z_166 < nI w ∨ z_169 < 0 ∨ ¬ z_169 < nI h)
            · skip
              obtain rfl : r_170 = 0 := by rw [hw_171, if_pos ho_172]
              refine lv_if_eq (tgt := 132) hx hb dX10_beside_71 (by decide) (fun c_173 => ?_) (fun c_173 => absurd c_173 (by decide))
              refine lv_iinc (v := nI (kq + 1)) (lv' := [(5, Value.int (nI (kq + 1))), (7, Value.int z_169), (6, Value.int z_166), (0, Value.ref h0), (1, Value.int (nI si)), (2, Value.int x), (3, Value.int y), (4, Value.int (nI bq))]) hx hb dX10_beside_132 hl (k := 7) rfl (nI_add kq 1) (by decide) rfl (fun ls hl => ?_)
              refine lv_goto (tgt := 8) hx hb dX10_beside_135 (by decide) ?_
              exact ih bq (kq + 1) (by omega) (by omega) (by omega) hsp (by omega) (by omega) (by omega) H locs (hP.sub [3, 0, 1, 2] rfl) (hD.sub [3, 0, 1, 2] (by decide) rfl) hS ls (lv_sub hl [3, 4, 5, 6, 7, 0] rfl)
            · skip
              obtain rfl : r_170 = 1 := by rw [hw_171, if_neg ho_172]
              obtain ⟨i_174, hi_174, ei_174⟩ : ∃ j : Nat, j < w ∧ z_166 = nI j := n_lt (fun q => ho_172 (Or.inl q)) (fun q => ho_172 (Or.inr (Or.inl (Int32.not_lt.mpr q)))) (by omega)
              obtain ⟨j_175, hj_175, ej_175⟩ : ∃ j : Nat, j < h ∧ z_169 = nI j := n_lt (fun q => ho_172 (Or.inr (Or.inr (Or.inl q)))) (fun q => ho_172 (Or.inr (Or.inr (Or.inr (Int32.not_lt.mpr q))))) (by omega)
              subst ei_174
              subst ej_175
              have hl : lv_has ls 8 [(7, Value.int (nI j_175)), (6, Value.int (nI i_174)), (0, Value.ref h0), (1, Value.int (nI si)), (2, Value.int x), (3, Value.int y), (4, Value.int (nI bq)), (5, Value.int (nI kq))] := hl
              refine lv_if_eq (tgt := 132) hx hb dX10_beside_71 (by decide) (fun c_176 => absurd c_176 (by decide)) (fun c_176 => ?_)
              refine lv_aload_n hx hb dX10_beside_74 rfl (lv_at hl 2 rfl) ?_
              refine lv_bipush (v := 10) hx hb dX10_beside_75 (by decide) ?_
              refine lv_iload hx hb dX10_beside_77 (lv_at hl 0 rfl) ?_
              refine lv_imul hx hb dX10_beside_79 ?_
              refine lv_topi (fun z_177 ez_177 => ?_)
              obtain rfl : z_177 = nI (10 * j_175) := ez_177.trans (pk_mul 10 j_175)
              refine lv_iload hx hb dX10_beside_80 (lv_at hl 1 rfl) ?_
              refine lv_iadd hx hb dX10_beside_82 ?_
              refine lv_topi (fun z_178 ez_178 => ?_)
              obtain rfl : z_178 = nI (10 * j_175 + i_174) := ez_178.trans (nI_add (10 * j_175) i_174)
              refine mc_Vi (rest := []) (wr := [(m_steps, Sum.inl (y_steps, 400, Sum.inl f_steps))]) F hK hP hD hS hA (n_isOpen l D h0 m_tape ln s_thrown m_rule m_rules sn m_stair s_readStairs s_fault s_faultPlace w h m_low m_high m_crack bc m_weight m_fire m_crowd m_state m_where s_hours s_fees s_looks m_words s_end s_next s_kind s_which s_place s_read m_told m_breaks m_row m_tried m_steps m_paths y_low f_low y_crack f_crack (10 * j_175 + i_174) (by omega)) ⟨gk_X10_174.1, gk_X10_174.2, Nat.le_of_ble_eq_true rfl, Nat.le_of_ble_eq_true rfl⟩ [3, 1, 2] [0] [1, 2] ⟨rfl, rfl, rfl, rfl, by decide⟩ rfl xT_move (fun _ _ _ => trivial) 3 rfl rfl rfl hl.1 rfl (Nat.le_of_ble_eq_true rfl) dX10_beside_83 ⟨Nat.le_of_ble_eq_true rfl, Nat.le_of_ble_eq_true rfl⟩ (fun r_179 _ H locs hw hK1 hP hD hS => ?_)
              have hP : va_P D vwCl [(m_steps, Sum.inl (y_steps, 400, Sum.inl f_steps)), (h0, Sum.inr (9, [Value.ref m_tape, Value.int (nI ln), Value.int s_thrown, Value.ref m_rule, Value.ref m_rules, Value.int (nI sn), Value.ref m_stair, Value.int s_readStairs, Value.int s_fault, Value.int s_faultPlace, Value.int (nI w), Value.int (nI h), Value.ref m_low, Value.ref m_high, Value.ref m_crack, Value.int (nI bc), Value.ref m_weight, Value.ref m_fire, Value.ref m_crowd, Value.ref m_state, Value.ref m_where, Value.int s_hours, Value.int s_fees, Value.int s_looks, Value.ref m_words, Value.int s_end, Value.int s_next, Value.int s_kind, Value.int s_which, Value.int s_place, Value.int s_read, Value.ref m_told, Value.ref m_breaks, Value.ref m_row, Value.ref m_tried, Value.ref m_steps, Value.ref m_paths])), (m_low, Sum.inl (y_low, 100, Sum.inl f_low)), (m_crack, Sum.inl (y_crack, 100, Sum.inl f_crack))] H := hP
              have hD : va_D A [(m_steps, Sum.inl (y_steps, 400, Sum.inl f_steps)), (h0, Sum.inr (9, [Value.ref m_tape, Value.int (nI ln), Value.int s_thrown, Value.ref m_rule, Value.ref m_rules, Value.int (nI sn), Value.ref m_stair, Value.int s_readStairs, Value.int s_fault, Value.int s_faultPlace, Value.int (nI w), Value.int (nI h), Value.ref m_low, Value.ref m_high, Value.ref m_crack, Value.int (nI bc), Value.ref m_weight, Value.ref m_fire, Value.ref m_crowd, Value.ref m_state, Value.ref m_where, Value.int s_hours, Value.int s_fees, Value.int s_looks, Value.ref m_words, Value.int s_end, Value.int s_next, Value.int s_kind, Value.int s_which, Value.int s_place, Value.int s_read, Value.ref m_told, Value.ref m_breaks, Value.ref m_row, Value.ref m_tried, Value.ref m_steps, Value.ref m_paths])), (m_low, Sum.inl (y_low, 100, Sum.inl f_low)), (m_crack, Sum.inl (y_crack, 100, Sum.inl f_crack))] := hD
              have hw_180 : r_179 = 0 ∨ r_179 = 1 := hw
              refine lv_if_eq (tgt := 132) hx hb dX10_beside_86 (by decide) (fun c_181 => ?_) (fun c_181 => ?_)
              · skip
                refine lv_iinc (v := nI (kq + 1)) (lv' := [(5, Value.int (nI (kq + 1))), (7, Value.int (nI j_175)), (6, Value.int (nI i_174)), (0, Value.ref h0), (1, Value.int (nI si)), (2, Value.int x), (3, Value.int y), (4, Value.int (nI bq))]) hx hb dX10_beside_132 hl (k := 7) rfl (nI_add kq 1) (by decide) rfl (fun ls hl => ?_)
                refine lv_goto (tgt := 8) hx hb dX10_beside_135 (by decide) ?_
                exact ih bq (kq + 1) (by omega) (by omega) (by omega) hsp (by omega) (by omega) (by omega) H locs (hP.sub [1, 0, 2, 3] rfl) (hD.sub [1, 0, 2, 3] (by decide) rfl) hS ls (lv_sub hl [3, 4, 5, 6, 7, 0] rfl)
              · skip
                refine lv_aload_n hx hb dX10_beside_89 rfl (lv_at hl 2 rfl) ?_
                refine va_get (D := D) (ci := 9) (v := Value.ref m_steps) (C := RX10) (T := TX10) (N := 37) hx hb hts inG_X10 hown hK hP 1 rfl rfl 35 (by decide) (hts _ kw_4_230) (fun _ h9 => h9) rfl dX10_beside_90 ?_
                refine lv_bipush (v := 100) hx hb dX10_beside_93 (by decide) ?_
                refine lv_iload_n hx hb dX10_beside_95 rfl (lv_at hl 3 rfl) ?_
                refine lv_imul hx hb dX10_beside_96 ?_
                refine lv_topi (fun z_182 ez_182 => ?_)
                obtain rfl : z_182 = nI (100 * si) := ez_182.trans (pk_mul 100 si)
                refine lv_bipush (v := 10) hx hb dX10_beside_97 (by decide) ?_
                refine lv_iload hx hb dX10_beside_99 (lv_at hl 0 rfl) ?_
                refine lv_imul hx hb dX10_beside_101 ?_
                refine lv_topi (fun z_183 ez_183 => ?_)
                obtain rfl : z_183 = nI (10 * j_175) := ez_183.trans (pk_mul 10 j_175)
                refine lv_iadd hx hb dX10_beside_102 ?_
                refine lv_topi (fun z_184 ez_184 => ?_)
                obtain rfl : z_184 = nI (100 * si + 10 * j_175) := ez_184.trans (nI_add (100 * si) (10 * j_175))
                refine lv_iload hx hb dX10_beside_103 (lv_at hl 1 rfl) ?_
                refine lv_iadd hx hb dX10_beside_105 ?_
                refine lv_topi (fun z_185 ez_185 => ?_)
                obtain rfl : z_185 = nI (100 * si + 10 * j_175 + i_174) := ez_185.trans (nI_add (100 * si + 10 * j_175) i_174)
                refine m_iald hx hb hK hP 0 0 rfl rfl (100 * si + 10 * j_175 + i_174) rfl (by omega) (by decide) dX10_beside_106 ?_
                refine lv_topi (fun v_186 ev_186 => ?_)
                obtain ⟨q_187, hq_187, Eq_187⟩ := hsp (100 * si + 10 * j_175 + i_174) (by omega)
                obtain rfl : v_186 = nI q_187 := ev_186.trans Eq_187
                refine lv_iload hx hb dX10_beside_107 (lv_at hl 6 rfl) ?_
                refine lv_icmp_ge (tgt := 132) hx hb dX10_beside_109 (by decide) (fun c_188 => ?_) (fun c_188 => ?_)
                · skip
                  have c_188n : bq ≤ q_187 := (nI_leI (by omega) (by omega)).mp c_188
                  have c_188 := Int32.not_lt.mpr c_188
                  refine lv_iinc (v := nI (kq + 1)) (lv' := [(5, Value.int (nI (kq + 1))), (7, Value.int (nI j_175)), (6, Value.int (nI i_174)), (0, Value.ref h0), (1, Value.int (nI si)), (2, Value.int x), (3, Value.int y), (4, Value.int (nI bq))]) hx hb dX10_beside_132 hl (k := 7) rfl (nI_add kq 1) (by decide) rfl (fun ls hl => ?_)
                  refine lv_goto (tgt := 8) hx hb dX10_beside_135 (by decide) ?_
                  exact ih bq (kq + 1) (by omega) (by omega) (by omega) hsp (by omega) (by omega) (by omega) H locs (hP.sub [1, 0, 2, 3] rfl) (hD.sub [1, 0, 2, 3] (by decide) rfl) hS ls (lv_sub hl [3, 4, 5, 6, 7, 0] rfl)
                · skip
                  have c_188n : q_187 < bq := nb_le (by omega) (by omega) c_188
                  have c_188 := Int32.not_le.mp c_188
                  refine lv_aload_n hx hb dX10_beside_112 rfl (lv_at hl 2 rfl) ?_
                  refine va_get (D := D) (ci := 9) (v := Value.ref m_steps) (C := RX10) (T := TX10) (N := 37) hx hb hts inG_X10 hown hK hP 1 rfl rfl 35 (by decide) (hts _ kw_4_230) (fun _ h9 => h9) rfl dX10_beside_113 ?_
                  refine lv_bipush (v := 100) hx hb dX10_beside_116 (by decide) ?_
                  refine lv_iload_n hx hb dX10_beside_118 rfl (lv_at hl 3 rfl) ?_
                  refine lv_imul hx hb dX10_beside_119 ?_
                  refine lv_topi (fun z_189 ez_189 => ?_)
                  obtain rfl : z_189 = nI (100 * si) := ez_189.trans (pk_mul 100 si)
                  refine lv_bipush (v := 10) hx hb dX10_beside_120 (by decide) ?_
                  refine lv_iload hx hb dX10_beside_122 (lv_at hl 0 rfl) ?_
                  refine lv_imul hx hb dX10_beside_124 ?_
                  refine lv_topi (fun z_190 ez_190 => ?_)
                  obtain rfl : z_190 = nI (10 * j_175) := ez_190.trans (pk_mul 10 j_175)
                  refine lv_iadd hx hb dX10_beside_125 ?_
                  refine lv_topi (fun z_191 ez_191 => ?_)
                  obtain rfl : z_191 = nI (100 * si + 10 * j_175) := ez_191.trans (nI_add (100 * si) (10 * j_175))
                  refine lv_iload hx hb dX10_beside_126 (lv_at hl 1 rfl) ?_
                  refine lv_iadd hx hb dX10_beside_128 ?_
                  refine lv_topi (fun z_192 ez_192 => ?_)
                  obtain rfl : z_192 = nI (100 * si + 10 * j_175 + i_174) := ez_192.trans (nI_add (100 * si + 10 * j_175) i_174)
                  refine m_iald hx hb hK hP 0 0 rfl rfl (100 * si + 10 * j_175 + i_174) rfl (by omega) (by decide) dX10_beside_129 ?_
                  refine lv_topi (fun v_193 ev_193 => ?_)
                  obtain ⟨q_194, hq_194, Eq_194⟩ := hsp (100 * si + 10 * j_175 + i_174) (by omega)
                  obtain rfl : v_193 = nI q_194 := ev_193.trans Eq_194
                  refine lv_istore (lv' := [(4, Value.int (nI q_194)), (7, Value.int (nI j_175)), (6, Value.int (nI i_174)), (0, Value.ref h0), (1, Value.int (nI si)), (2, Value.int x), (3, Value.int y), (5, Value.int (nI kq))]) hx hb dX10_beside_130 hl (by decide) rfl (fun ls hl => ?_)
                  refine lv_iinc (v := nI (kq + 1)) (lv' := [(5, Value.int (nI (kq + 1))), (4, Value.int (nI q_194)), (7, Value.int (nI j_175)), (6, Value.int (nI i_174)), (0, Value.ref h0), (1, Value.int (nI si)), (2, Value.int x), (3, Value.int y)]) hx hb dX10_beside_132 hl (k := 7) rfl (nI_add kq 1) (by decide) rfl (fun ls hl => ?_)
                  refine lv_goto (tgt := 8) hx hb dX10_beside_135 (by decide) ?_
                  exact ih q_194 (kq + 1) (by omega) (by omega) (by omega) hsp (by omega) (by omega) (by omega) H locs (hP.sub [1, 0, 2, 3] rfl) (hD.sub [1, 0, 2, 3] (by decide) rfl) hS ls (lv_sub hl [4, 5, 6, 7, 1, 0] rfl)
          · skip
            have c_168n : kq = 3 := (nI_eq (by omega) (by omega)).mp c_168
            refine lv_iconst (v := -1) hx hb dX10_beside_55 (by decide) ?_
            refine lv_goto (tgt := 60) hx hb dX10_beside_56 (by decide) ?_
            refine lv_iadd hx hb dX10_beside_60 ?_
            refine lv_topi (fun z_195 ez_195 => ?_)
            refine lv_istore (lv' := [(7, Value.int z_195), (6, Value.int z_166), (0, Value.ref h0), (1, Value.int (nI si)), (2, Value.int x), (3, Value.int y), (4, Value.int (nI bq)), (5, Value.int (nI kq))]) hx hb dX10_beside_61 hl (by decide) rfl (fun ls hl => ?_)
            refine lv_aload_n hx hb dX10_beside_63 rfl (lv_at hl 2 rfl) ?_
            refine lv_iload hx hb dX10_beside_64 (lv_at hl 1 rfl) ?_
            refine lv_iload hx hb dX10_beside_66 (lv_at hl 0 rfl) ?_
            refine mc_Vi (rest := []) (wr := [(m_steps, Sum.inl (y_steps, 400, Sum.inl f_steps)), (m_low, Sum.inl (y_low, 100, Sum.inl f_low)), (m_crack, Sum.inl (y_crack, 100, Sum.inl f_crack))]) F hK hP hD hS hA (n_isCell l D h0 m_tape ln s_thrown m_rule m_rules sn m_stair s_readStairs s_fault s_faultPlace w h m_low m_high m_crack bc m_weight m_fire m_crowd m_state m_where s_hours s_fees s_looks m_words s_end s_next s_kind s_which s_place s_read m_told m_breaks m_row m_tried m_steps m_paths z_166 z_195 (by omega) (by omega)) ⟨gk_X10_155.1, gk_X10_155.2, Nat.le_of_ble_eq_true rfl, Nat.le_of_ble_eq_true rfl⟩ [0] [1, 2, 3] [] ⟨rfl, rfl, rfl, rfl, by decide⟩ rfl xT_move (fun _ _ _ => trivial) 0 rfl rfl rfl hl.1 rfl (Nat.le_of_ble_eq_true rfl) dX10_beside_68 ⟨Nat.le_of_ble_eq_true rfl, Nat.le_of_ble_eq_true rfl⟩ (fun r_196 _ H locs hw hK1 hP hD hS => ?_)
            have hP : va_P D vwCl [(m_steps, Sum.inl (y_steps, 400, Sum.inl f_steps)), (m_low, Sum.inl (y_low, 100, Sum.inl f_low)), (m_crack, Sum.inl (y_crack, 100, Sum.inl f_crack)), (h0, Sum.inr (9, [Value.ref m_tape, Value.int (nI ln), Value.int s_thrown, Value.ref m_rule, Value.ref m_rules, Value.int (nI sn), Value.ref m_stair, Value.int s_readStairs, Value.int s_fault, Value.int s_faultPlace, Value.int (nI w), Value.int (nI h), Value.ref m_low, Value.ref m_high, Value.ref m_crack, Value.int (nI bc), Value.ref m_weight, Value.ref m_fire, Value.ref m_crowd, Value.ref m_state, Value.ref m_where, Value.int s_hours, Value.int s_fees, Value.int s_looks, Value.ref m_words, Value.int s_end, Value.int s_next, Value.int s_kind, Value.int s_which, Value.int s_place, Value.int s_read, Value.ref m_told, Value.ref m_breaks, Value.ref m_row, Value.ref m_tried, Value.ref m_steps, Value.ref m_paths]))] H := hP
            have hD : va_D A [(m_steps, Sum.inl (y_steps, 400, Sum.inl f_steps)), (m_low, Sum.inl (y_low, 100, Sum.inl f_low)), (m_crack, Sum.inl (y_crack, 100, Sum.inl f_crack)), (h0, Sum.inr (9, [Value.ref m_tape, Value.int (nI ln), Value.int s_thrown, Value.ref m_rule, Value.ref m_rules, Value.int (nI sn), Value.ref m_stair, Value.int s_readStairs, Value.int s_fault, Value.int s_faultPlace, Value.int (nI w), Value.int (nI h), Value.ref m_low, Value.ref m_high, Value.ref m_crack, Value.int (nI bc), Value.ref m_weight, Value.ref m_fire, Value.ref m_crowd, Value.ref m_state, Value.ref m_where, Value.int s_hours, Value.int s_fees, Value.int s_looks, Value.ref m_words, Value.int s_end, Value.int s_next, Value.int s_kind, Value.int s_which, Value.int s_place, Value.int s_read, Value.ref m_told, Value.ref m_breaks, Value.ref m_row, Value.ref m_tried, Value.ref m_steps, Value.ref m_paths]))] := hD
            have hw_197 : r_196 = (if (z_166 < 0 ∨ ¬ z_166 < nI w ∨ z_195 < 0 ∨ ¬ z_195 < nI h) then 0 else 1) := hw
            by_cases ho_198 : (z_166 < 0 ∨ ¬ z_166 < nI w ∨ z_195 < 0 ∨ ¬ z_195 < nI h)
            · skip
              obtain rfl : r_196 = 0 := by rw [hw_197, if_pos ho_198]
              refine lv_if_eq (tgt := 132) hx hb dX10_beside_71 (by decide) (fun c_199 => ?_) (fun c_199 => absurd c_199 (by decide))
              refine lv_iinc (v := nI (kq + 1)) (lv' := [(5, Value.int (nI (kq + 1))), (7, Value.int z_195), (6, Value.int z_166), (0, Value.ref h0), (1, Value.int (nI si)), (2, Value.int x), (3, Value.int y), (4, Value.int (nI bq))]) hx hb dX10_beside_132 hl (k := 7) rfl (nI_add kq 1) (by decide) rfl (fun ls hl => ?_)
              refine lv_goto (tgt := 8) hx hb dX10_beside_135 (by decide) ?_
              exact ih bq (kq + 1) (by omega) (by omega) (by omega) hsp (by omega) (by omega) (by omega) H locs (hP.sub [3, 0, 1, 2] rfl) (hD.sub [3, 0, 1, 2] (by decide) rfl) hS ls (lv_sub hl [3, 4, 5, 6, 7, 0] rfl)
            · skip
              obtain rfl : r_196 = 1 := by rw [hw_197, if_neg ho_198]
              obtain ⟨i_200, hi_200, ei_200⟩ : ∃ j : Nat, j < w ∧ z_166 = nI j := n_lt (fun q => ho_198 (Or.inl q)) (fun q => ho_198 (Or.inr (Or.inl (Int32.not_lt.mpr q)))) (by omega)
              obtain ⟨j_201, hj_201, ej_201⟩ : ∃ j : Nat, j < h ∧ z_195 = nI j := n_lt (fun q => ho_198 (Or.inr (Or.inr (Or.inl q)))) (fun q => ho_198 (Or.inr (Or.inr (Or.inr (Int32.not_lt.mpr q))))) (by omega)
              subst ei_200
              subst ej_201
              have hl : lv_has ls 8 [(7, Value.int (nI j_201)), (6, Value.int (nI i_200)), (0, Value.ref h0), (1, Value.int (nI si)), (2, Value.int x), (3, Value.int y), (4, Value.int (nI bq)), (5, Value.int (nI kq))] := hl
              refine lv_if_eq (tgt := 132) hx hb dX10_beside_71 (by decide) (fun c_202 => absurd c_202 (by decide)) (fun c_202 => ?_)
              refine lv_aload_n hx hb dX10_beside_74 rfl (lv_at hl 2 rfl) ?_
              refine lv_bipush (v := 10) hx hb dX10_beside_75 (by decide) ?_
              refine lv_iload hx hb dX10_beside_77 (lv_at hl 0 rfl) ?_
              refine lv_imul hx hb dX10_beside_79 ?_
              refine lv_topi (fun z_203 ez_203 => ?_)
              obtain rfl : z_203 = nI (10 * j_201) := ez_203.trans (pk_mul 10 j_201)
              refine lv_iload hx hb dX10_beside_80 (lv_at hl 1 rfl) ?_
              refine lv_iadd hx hb dX10_beside_82 ?_
              refine lv_topi (fun z_204 ez_204 => ?_)
              obtain rfl : z_204 = nI (10 * j_201 + i_200) := ez_204.trans (nI_add (10 * j_201) i_200)
              refine mc_Vi (rest := []) (wr := [(m_steps, Sum.inl (y_steps, 400, Sum.inl f_steps))]) F hK hP hD hS hA (n_isOpen l D h0 m_tape ln s_thrown m_rule m_rules sn m_stair s_readStairs s_fault s_faultPlace w h m_low m_high m_crack bc m_weight m_fire m_crowd m_state m_where s_hours s_fees s_looks m_words s_end s_next s_kind s_which s_place s_read m_told m_breaks m_row m_tried m_steps m_paths y_low f_low y_crack f_crack (10 * j_201 + i_200) (by omega)) ⟨gk_X10_174.1, gk_X10_174.2, Nat.le_of_ble_eq_true rfl, Nat.le_of_ble_eq_true rfl⟩ [3, 1, 2] [0] [1, 2] ⟨rfl, rfl, rfl, rfl, by decide⟩ rfl xT_move (fun _ _ _ => trivial) 3 rfl rfl rfl hl.1 rfl (Nat.le_of_ble_eq_true rfl) dX10_beside_83 ⟨Nat.le_of_ble_eq_true rfl, Nat.le_of_ble_eq_true rfl⟩ (fun r_205 _ H locs hw hK1 hP hD hS => ?_)
              have hP : va_P D vwCl [(m_steps, Sum.inl (y_steps, 400, Sum.inl f_steps)), (h0, Sum.inr (9, [Value.ref m_tape, Value.int (nI ln), Value.int s_thrown, Value.ref m_rule, Value.ref m_rules, Value.int (nI sn), Value.ref m_stair, Value.int s_readStairs, Value.int s_fault, Value.int s_faultPlace, Value.int (nI w), Value.int (nI h), Value.ref m_low, Value.ref m_high, Value.ref m_crack, Value.int (nI bc), Value.ref m_weight, Value.ref m_fire, Value.ref m_crowd, Value.ref m_state, Value.ref m_where, Value.int s_hours, Value.int s_fees, Value.int s_looks, Value.ref m_words, Value.int s_end, Value.int s_next, Value.int s_kind, Value.int s_which, Value.int s_place, Value.int s_read, Value.ref m_told, Value.ref m_breaks, Value.ref m_row, Value.ref m_tried, Value.ref m_steps, Value.ref m_paths])), (m_low, Sum.inl (y_low, 100, Sum.inl f_low)), (m_crack, Sum.inl (y_crack, 100, Sum.inl f_crack))] H := hP
              have hD : va_D A [(m_steps, Sum.inl (y_steps, 400, Sum.inl f_steps)), (h0, Sum.inr (9, [Value.ref m_tape, Value.int (nI ln), Value.int s_thrown, Value.ref m_rule, Value.ref m_rules, Value.int (nI sn), Value.ref m_stair, Value.int s_readStairs, Value.int s_fault, Value.int s_faultPlace, Value.int (nI w), Value.int (nI h), Value.ref m_low, Value.ref m_high, Value.ref m_crack, Value.int (nI bc), Value.ref m_weight, Value.ref m_fire, Value.ref m_crowd, Value.ref m_state, Value.ref m_where, Value.int s_hours, Value.int s_fees, Value.int s_looks, Value.ref m_words, Value.int s_end, Value.int s_next, Value.int s_kind, Value.int s_which, Value.int s_place, Value.int s_read, Value.ref m_told, Value.ref m_breaks, Value.ref m_row, Value.ref m_tried, Value.ref m_steps, Value.ref m_paths])), (m_low, Sum.inl (y_low, 100, Sum.inl f_low)), (m_crack, Sum.inl (y_crack, 100, Sum.inl f_crack))] := hD
              have hw_206 : r_205 = 0 ∨ r_205 = 1 := hw
              refine lv_if_eq (tgt := 132) hx hb dX10_beside_86 (by decide) (fun c_207 => ?_) (fun c_207 => ?_)
              · skip
                refine lv_iinc (v := nI (kq + 1)) (lv' := [(5, Value.int (nI (kq + 1))), (7, Value.int (nI j_201)), (6, Value.int (nI i_200)), (0, Value.ref h0), (1, Value.int (nI si)), (2, Value.int x), (3, Value.int y), (4, Value.int (nI bq))]) hx hb dX10_beside_132 hl (k := 7) rfl (nI_add kq 1) (by decide) rfl (fun ls hl => ?_)
                refine lv_goto (tgt := 8) hx hb dX10_beside_135 (by decide) ?_
                exact ih bq (kq + 1) (by omega) (by omega) (by omega) hsp (by omega) (by omega) (by omega) H locs (hP.sub [1, 0, 2, 3] rfl) (hD.sub [1, 0, 2, 3] (by decide) rfl) hS ls (lv_sub hl [3, 4, 5, 6, 7, 0] rfl)
              · skip
                refine lv_aload_n hx hb dX10_beside_89 rfl (lv_at hl 2 rfl) ?_
                refine va_get (D := D) (ci := 9) (v := Value.ref m_steps) (C := RX10) (T := TX10) (N := 37) hx hb hts inG_X10 hown hK hP 1 rfl rfl 35 (by decide) (hts _ kw_4_230) (fun _ h9 => h9) rfl dX10_beside_90 ?_
                refine lv_bipush (v := 100) hx hb dX10_beside_93 (by decide) ?_
                refine lv_iload_n hx hb dX10_beside_95 rfl (lv_at hl 3 rfl) ?_
                refine lv_imul hx hb dX10_beside_96 ?_
                refine lv_topi (fun z_208 ez_208 => ?_)
                obtain rfl : z_208 = nI (100 * si) := ez_208.trans (pk_mul 100 si)
                refine lv_bipush (v := 10) hx hb dX10_beside_97 (by decide) ?_
                refine lv_iload hx hb dX10_beside_99 (lv_at hl 0 rfl) ?_
                refine lv_imul hx hb dX10_beside_101 ?_
                refine lv_topi (fun z_209 ez_209 => ?_)
                obtain rfl : z_209 = nI (10 * j_201) := ez_209.trans (pk_mul 10 j_201)
                refine lv_iadd hx hb dX10_beside_102 ?_
                refine lv_topi (fun z_210 ez_210 => ?_)
                obtain rfl : z_210 = nI (100 * si + 10 * j_201) := ez_210.trans (nI_add (100 * si) (10 * j_201))
                refine lv_iload hx hb dX10_beside_103 (lv_at hl 1 rfl) ?_
                refine lv_iadd hx hb dX10_beside_105 ?_
                refine lv_topi (fun z_211 ez_211 => ?_)
                obtain rfl : z_211 = nI (100 * si + 10 * j_201 + i_200) := ez_211.trans (nI_add (100 * si + 10 * j_201) i_200)
                refine m_iald hx hb hK hP 0 0 rfl rfl (100 * si + 10 * j_201 + i_200) rfl (by omega) (by decide) dX10_beside_106 ?_
                refine lv_topi (fun v_212 ev_212 => ?_)
                obtain ⟨q_213, hq_213, Eq_213⟩ := hsp (100 * si + 10 * j_201 + i_200) (by omega)
                obtain rfl : v_212 = nI q_213 := ev_212.trans Eq_213
                refine lv_iload hx hb dX10_beside_107 (lv_at hl 6 rfl) ?_
                refine lv_icmp_ge (tgt := 132) hx hb dX10_beside_109 (by decide) (fun c_214 => ?_) (fun c_214 => ?_)
                · skip
                  have c_214n : bq ≤ q_213 := (nI_leI (by omega) (by omega)).mp c_214
                  have c_214 := Int32.not_lt.mpr c_214
                  refine lv_iinc (v := nI (kq + 1)) (lv' := [(5, Value.int (nI (kq + 1))), (7, Value.int (nI j_201)), (6, Value.int (nI i_200)), (0, Value.ref h0), (1, Value.int (nI si)), (2, Value.int x), (3, Value.int y), (4, Value.int (nI bq))]) hx hb dX10_beside_132 hl (k := 7) rfl (nI_add kq 1) (by decide) rfl (fun ls hl => ?_)
                  refine lv_goto (tgt := 8) hx hb dX10_beside_135 (by decide) ?_
                  exact ih bq (kq + 1) (by omega) (by omega) (by omega) hsp (by omega) (by omega) (by omega) H locs (hP.sub [1, 0, 2, 3] rfl) (hD.sub [1, 0, 2, 3] (by decide) rfl) hS ls (lv_sub hl [3, 4, 5, 6, 7, 0] rfl)
                · skip
                  have c_214n : q_213 < bq := nb_le (by omega) (by omega) c_214
                  have c_214 := Int32.not_le.mp c_214
                  refine lv_aload_n hx hb dX10_beside_112 rfl (lv_at hl 2 rfl) ?_
                  refine va_get (D := D) (ci := 9) (v := Value.ref m_steps) (C := RX10) (T := TX10) (N := 37) hx hb hts inG_X10 hown hK hP 1 rfl rfl 35 (by decide) (hts _ kw_4_230) (fun _ h9 => h9) rfl dX10_beside_113 ?_
                  refine lv_bipush (v := 100) hx hb dX10_beside_116 (by decide) ?_
                  refine lv_iload_n hx hb dX10_beside_118 rfl (lv_at hl 3 rfl) ?_
                  refine lv_imul hx hb dX10_beside_119 ?_
                  refine lv_topi (fun z_215 ez_215 => ?_)
                  obtain rfl : z_215 = nI (100 * si) := ez_215.trans (pk_mul 100 si)
                  refine lv_bipush (v := 10) hx hb dX10_beside_120 (by decide) ?_
                  refine lv_iload hx hb dX10_beside_122 (lv_at hl 0 rfl) ?_
                  refine lv_imul hx hb dX10_beside_124 ?_
                  refine lv_topi (fun z_216 ez_216 => ?_)
                  obtain rfl : z_216 = nI (10 * j_201) := ez_216.trans (pk_mul 10 j_201)
                  refine lv_iadd hx hb dX10_beside_125 ?_
                  refine lv_topi (fun z_217 ez_217 => ?_)
                  obtain rfl : z_217 = nI (100 * si + 10 * j_201) := ez_217.trans (nI_add (100 * si) (10 * j_201))
                  refine lv_iload hx hb dX10_beside_126 (lv_at hl 1 rfl) ?_
                  refine lv_iadd hx hb dX10_beside_128 ?_
                  refine lv_topi (fun z_218 ez_218 => ?_)
                  obtain rfl : z_218 = nI (100 * si + 10 * j_201 + i_200) := ez_218.trans (nI_add (100 * si + 10 * j_201) i_200)
                  refine m_iald hx hb hK hP 0 0 rfl rfl (100 * si + 10 * j_201 + i_200) rfl (by omega) (by decide) dX10_beside_129 ?_
                  refine lv_topi (fun v_219 ev_219 => ?_)
                  obtain ⟨q_220, hq_220, Eq_220⟩ := hsp (100 * si + 10 * j_201 + i_200) (by omega)
                  obtain rfl : v_219 = nI q_220 := ev_219.trans Eq_220
                  refine lv_istore (lv' := [(4, Value.int (nI q_220)), (7, Value.int (nI j_201)), (6, Value.int (nI i_200)), (0, Value.ref h0), (1, Value.int (nI si)), (2, Value.int x), (3, Value.int y), (5, Value.int (nI kq))]) hx hb dX10_beside_130 hl (by decide) rfl (fun ls hl => ?_)
                  refine lv_iinc (v := nI (kq + 1)) (lv' := [(5, Value.int (nI (kq + 1))), (4, Value.int (nI q_220)), (7, Value.int (nI j_201)), (6, Value.int (nI i_200)), (0, Value.ref h0), (1, Value.int (nI si)), (2, Value.int x), (3, Value.int y)]) hx hb dX10_beside_132 hl (k := 7) rfl (nI_add kq 1) (by decide) rfl (fun ls hl => ?_)
                  refine lv_goto (tgt := 8) hx hb dX10_beside_135 (by decide) ?_
                  exact ih q_220 (kq + 1) (by omega) (by omega) (by omega) hsp (by omega) (by omega) (by omega) H locs (hP.sub [1, 0, 2, 3] rfl) (hD.sub [1, 0, 2, 3] (by decide) rfl) hS ls (lv_sub hl [4, 5, 6, 7, 1, 0] rfl)
        · skip
          have c_167n : kq = 2 := (nI_eq (by omega) (by omega)).mp c_167
          refine lv_iconst (v := 1) hx hb dX10_beside_45 (by decide) ?_
          refine lv_goto (tgt := 60) hx hb dX10_beside_46 (by decide) ?_
          refine lv_iadd hx hb dX10_beside_60 ?_
          refine lv_topi (fun z_221 ez_221 => ?_)
          refine lv_istore (lv' := [(7, Value.int z_221), (6, Value.int z_166), (0, Value.ref h0), (1, Value.int (nI si)), (2, Value.int x), (3, Value.int y), (4, Value.int (nI bq)), (5, Value.int (nI kq))]) hx hb dX10_beside_61 hl (by decide) rfl (fun ls hl => ?_)
          refine lv_aload_n hx hb dX10_beside_63 rfl (lv_at hl 2 rfl) ?_
          refine lv_iload hx hb dX10_beside_64 (lv_at hl 1 rfl) ?_
          refine lv_iload hx hb dX10_beside_66 (lv_at hl 0 rfl) ?_
          refine mc_Vi (rest := []) (wr := [(m_steps, Sum.inl (y_steps, 400, Sum.inl f_steps)), (m_low, Sum.inl (y_low, 100, Sum.inl f_low)), (m_crack, Sum.inl (y_crack, 100, Sum.inl f_crack))]) F hK hP hD hS hA (n_isCell l D h0 m_tape ln s_thrown m_rule m_rules sn m_stair s_readStairs s_fault s_faultPlace w h m_low m_high m_crack bc m_weight m_fire m_crowd m_state m_where s_hours s_fees s_looks m_words s_end s_next s_kind s_which s_place s_read m_told m_breaks m_row m_tried m_steps m_paths z_166 z_221 (by omega) (by omega)) ⟨gk_X10_155.1, gk_X10_155.2, Nat.le_of_ble_eq_true rfl, Nat.le_of_ble_eq_true rfl⟩ [0] [1, 2, 3] [] ⟨rfl, rfl, rfl, rfl, by decide⟩ rfl xT_move (fun _ _ _ => trivial) 0 rfl rfl rfl hl.1 rfl (Nat.le_of_ble_eq_true rfl) dX10_beside_68 ⟨Nat.le_of_ble_eq_true rfl, Nat.le_of_ble_eq_true rfl⟩ (fun r_222 _ H locs hw hK1 hP hD hS => ?_)
          have hP : va_P D vwCl [(m_steps, Sum.inl (y_steps, 400, Sum.inl f_steps)), (m_low, Sum.inl (y_low, 100, Sum.inl f_low)), (m_crack, Sum.inl (y_crack, 100, Sum.inl f_crack)), (h0, Sum.inr (9, [Value.ref m_tape, Value.int (nI ln), Value.int s_thrown, Value.ref m_rule, Value.ref m_rules, Value.int (nI sn), Value.ref m_stair, Value.int s_readStairs, Value.int s_fault, Value.int s_faultPlace, Value.int (nI w), Value.int (nI h), Value.ref m_low, Value.ref m_high, Value.ref m_crack, Value.int (nI bc), Value.ref m_weight, Value.ref m_fire, Value.ref m_crowd, Value.ref m_state, Value.ref m_where, Value.int s_hours, Value.int s_fees, Value.int s_looks, Value.ref m_words, Value.int s_end, Value.int s_next, Value.int s_kind, Value.int s_which, Value.int s_place, Value.int s_read, Value.ref m_told, Value.ref m_breaks, Value.ref m_row, Value.ref m_tried, Value.ref m_steps, Value.ref m_paths]))] H := hP
          have hD : va_D A [(m_steps, Sum.inl (y_steps, 400, Sum.inl f_steps)), (m_low, Sum.inl (y_low, 100, Sum.inl f_low)), (m_crack, Sum.inl (y_crack, 100, Sum.inl f_crack)), (h0, Sum.inr (9, [Value.ref m_tape, Value.int (nI ln), Value.int s_thrown, Value.ref m_rule, Value.ref m_rules, Value.int (nI sn), Value.ref m_stair, Value.int s_readStairs, Value.int s_fault, Value.int s_faultPlace, Value.int (nI w), Value.int (nI h), Value.ref m_low, Value.ref m_high, Value.ref m_crack, Value.int (nI bc), Value.ref m_weight, Value.ref m_fire, Value.ref m_crowd, Value.ref m_state, Value.ref m_where, Value.int s_hours, Value.int s_fees, Value.int s_looks, Value.ref m_words, Value.int s_end, Value.int s_next, Value.int s_kind, Value.int s_which, Value.int s_place, Value.int s_read, Value.ref m_told, Value.ref m_breaks, Value.ref m_row, Value.ref m_tried, Value.ref m_steps, Value.ref m_paths]))] := hD
          have hw_223 : r_222 = (if (z_166 < 0 ∨ ¬ z_166 < nI w ∨ z_221 < 0 ∨ ¬ z_221 < nI h) then 0 else 1) := hw
          by_cases ho_224 : (z_166 < 0 ∨ ¬ z_166 < nI w ∨ z_221 < 0 ∨ ¬ z_221 < nI h)
          · skip
            obtain rfl : r_222 = 0 := by rw [hw_223, if_pos ho_224]
            refine lv_if_eq (tgt := 132) hx hb dX10_beside_71 (by decide) (fun c_225 => ?_) (fun c_225 => absurd c_225 (by decide))
            refine lv_iinc (v := nI (kq + 1)) (lv' := [(5, Value.int (nI (kq + 1))), (7, Value.int z_221), (6, Value.int z_166), (0, Value.ref h0), (1, Value.int (nI si)), (2, Value.int x), (3, Value.int y), (4, Value.int (nI bq))]) hx hb dX10_beside_132 hl (k := 7) rfl (nI_add kq 1) (by decide) rfl (fun ls hl => ?_)
            refine lv_goto (tgt := 8) hx hb dX10_beside_135 (by decide) ?_
            exact ih bq (kq + 1) (by omega) (by omega) (by omega) hsp (by omega) (by omega) (by omega) H locs (hP.sub [3, 0, 1, 2] rfl) (hD.sub [3, 0, 1, 2] (by decide) rfl) hS ls (lv_sub hl [3, 4, 5, 6, 7, 0] rfl)
          · skip
            obtain rfl : r_222 = 1 := by rw [hw_223, if_neg ho_224]
            obtain ⟨i_226, hi_226, ei_226⟩ : ∃ j : Nat, j < w ∧ z_166 = nI j := n_lt (fun q => ho_224 (Or.inl q)) (fun q => ho_224 (Or.inr (Or.inl (Int32.not_lt.mpr q)))) (by omega)
            obtain ⟨j_227, hj_227, ej_227⟩ : ∃ j : Nat, j < h ∧ z_221 = nI j := n_lt (fun q => ho_224 (Or.inr (Or.inr (Or.inl q)))) (fun q => ho_224 (Or.inr (Or.inr (Or.inr (Int32.not_lt.mpr q))))) (by omega)
            subst ei_226
            subst ej_227
            have hl : lv_has ls 8 [(7, Value.int (nI j_227)), (6, Value.int (nI i_226)), (0, Value.ref h0), (1, Value.int (nI si)), (2, Value.int x), (3, Value.int y), (4, Value.int (nI bq)), (5, Value.int (nI kq))] := hl
            refine lv_if_eq (tgt := 132) hx hb dX10_beside_71 (by decide) (fun c_228 => absurd c_228 (by decide)) (fun c_228 => ?_)
            refine lv_aload_n hx hb dX10_beside_74 rfl (lv_at hl 2 rfl) ?_
            refine lv_bipush (v := 10) hx hb dX10_beside_75 (by decide) ?_
            refine lv_iload hx hb dX10_beside_77 (lv_at hl 0 rfl) ?_
            refine lv_imul hx hb dX10_beside_79 ?_
            refine lv_topi (fun z_229 ez_229 => ?_)
            obtain rfl : z_229 = nI (10 * j_227) := ez_229.trans (pk_mul 10 j_227)
            refine lv_iload hx hb dX10_beside_80 (lv_at hl 1 rfl) ?_
            refine lv_iadd hx hb dX10_beside_82 ?_
            refine lv_topi (fun z_230 ez_230 => ?_)
            obtain rfl : z_230 = nI (10 * j_227 + i_226) := ez_230.trans (nI_add (10 * j_227) i_226)
            refine mc_Vi (rest := []) (wr := [(m_steps, Sum.inl (y_steps, 400, Sum.inl f_steps))]) F hK hP hD hS hA (n_isOpen l D h0 m_tape ln s_thrown m_rule m_rules sn m_stair s_readStairs s_fault s_faultPlace w h m_low m_high m_crack bc m_weight m_fire m_crowd m_state m_where s_hours s_fees s_looks m_words s_end s_next s_kind s_which s_place s_read m_told m_breaks m_row m_tried m_steps m_paths y_low f_low y_crack f_crack (10 * j_227 + i_226) (by omega)) ⟨gk_X10_174.1, gk_X10_174.2, Nat.le_of_ble_eq_true rfl, Nat.le_of_ble_eq_true rfl⟩ [3, 1, 2] [0] [1, 2] ⟨rfl, rfl, rfl, rfl, by decide⟩ rfl xT_move (fun _ _ _ => trivial) 3 rfl rfl rfl hl.1 rfl (Nat.le_of_ble_eq_true rfl) dX10_beside_83 ⟨Nat.le_of_ble_eq_true rfl, Nat.le_of_ble_eq_true rfl⟩ (fun r_231 _ H locs hw hK1 hP hD hS => ?_)
            have hP : va_P D vwCl [(m_steps, Sum.inl (y_steps, 400, Sum.inl f_steps)), (h0, Sum.inr (9, [Value.ref m_tape, Value.int (nI ln), Value.int s_thrown, Value.ref m_rule, Value.ref m_rules, Value.int (nI sn), Value.ref m_stair, Value.int s_readStairs, Value.int s_fault, Value.int s_faultPlace, Value.int (nI w), Value.int (nI h), Value.ref m_low, Value.ref m_high, Value.ref m_crack, Value.int (nI bc), Value.ref m_weight, Value.ref m_fire, Value.ref m_crowd, Value.ref m_state, Value.ref m_where, Value.int s_hours, Value.int s_fees, Value.int s_looks, Value.ref m_words, Value.int s_end, Value.int s_next, Value.int s_kind, Value.int s_which, Value.int s_place, Value.int s_read, Value.ref m_told, Value.ref m_breaks, Value.ref m_row, Value.ref m_tried, Value.ref m_steps, Value.ref m_paths])), (m_low, Sum.inl (y_low, 100, Sum.inl f_low)), (m_crack, Sum.inl (y_crack, 100, Sum.inl f_crack))] H := hP
            have hD : va_D A [(m_steps, Sum.inl (y_steps, 400, Sum.inl f_steps)), (h0, Sum.inr (9, [Value.ref m_tape, Value.int (nI ln), Value.int s_thrown, Value.ref m_rule, Value.ref m_rules, Value.int (nI sn), Value.ref m_stair, Value.int s_readStairs, Value.int s_fault, Value.int s_faultPlace, Value.int (nI w), Value.int (nI h), Value.ref m_low, Value.ref m_high, Value.ref m_crack, Value.int (nI bc), Value.ref m_weight, Value.ref m_fire, Value.ref m_crowd, Value.ref m_state, Value.ref m_where, Value.int s_hours, Value.int s_fees, Value.int s_looks, Value.ref m_words, Value.int s_end, Value.int s_next, Value.int s_kind, Value.int s_which, Value.int s_place, Value.int s_read, Value.ref m_told, Value.ref m_breaks, Value.ref m_row, Value.ref m_tried, Value.ref m_steps, Value.ref m_paths])), (m_low, Sum.inl (y_low, 100, Sum.inl f_low)), (m_crack, Sum.inl (y_crack, 100, Sum.inl f_crack))] := hD
            have hw_232 : r_231 = 0 ∨ r_231 = 1 := hw
            refine lv_if_eq (tgt := 132) hx hb dX10_beside_86 (by decide) (fun c_233 => ?_) (fun c_233 => ?_)
            · skip
              refine lv_iinc (v := nI (kq + 1)) (lv' := [(5, Value.int (nI (kq + 1))), (7, Value.int (nI j_227)), (6, Value.int (nI i_226)), (0, Value.ref h0), (1, Value.int (nI si)), (2, Value.int x), (3, Value.int y), (4, Value.int (nI bq))]) hx hb dX10_beside_132 hl (k := 7) rfl (nI_add kq 1) (by decide) rfl (fun ls hl => ?_)
              refine lv_goto (tgt := 8) hx hb dX10_beside_135 (by decide) ?_
              exact ih bq (kq + 1) (by omega) (by omega) (by omega) hsp (by omega) (by omega) (by omega) H locs (hP.sub [1, 0, 2, 3] rfl) (hD.sub [1, 0, 2, 3] (by decide) rfl) hS ls (lv_sub hl [3, 4, 5, 6, 7, 0] rfl)
            · skip
              refine lv_aload_n hx hb dX10_beside_89 rfl (lv_at hl 2 rfl) ?_
              refine va_get (D := D) (ci := 9) (v := Value.ref m_steps) (C := RX10) (T := TX10) (N := 37) hx hb hts inG_X10 hown hK hP 1 rfl rfl 35 (by decide) (hts _ kw_4_230) (fun _ h9 => h9) rfl dX10_beside_90 ?_
              refine lv_bipush (v := 100) hx hb dX10_beside_93 (by decide) ?_
              refine lv_iload_n hx hb dX10_beside_95 rfl (lv_at hl 3 rfl) ?_
              refine lv_imul hx hb dX10_beside_96 ?_
              refine lv_topi (fun z_234 ez_234 => ?_)
              obtain rfl : z_234 = nI (100 * si) := ez_234.trans (pk_mul 100 si)
              refine lv_bipush (v := 10) hx hb dX10_beside_97 (by decide) ?_
              refine lv_iload hx hb dX10_beside_99 (lv_at hl 0 rfl) ?_
              refine lv_imul hx hb dX10_beside_101 ?_
              refine lv_topi (fun z_235 ez_235 => ?_)
              obtain rfl : z_235 = nI (10 * j_227) := ez_235.trans (pk_mul 10 j_227)
              refine lv_iadd hx hb dX10_beside_102 ?_
              refine lv_topi (fun z_236 ez_236 => ?_)
              obtain rfl : z_236 = nI (100 * si + 10 * j_227) := ez_236.trans (nI_add (100 * si) (10 * j_227))
              refine lv_iload hx hb dX10_beside_103 (lv_at hl 1 rfl) ?_
              refine lv_iadd hx hb dX10_beside_105 ?_
              refine lv_topi (fun z_237 ez_237 => ?_)
              obtain rfl : z_237 = nI (100 * si + 10 * j_227 + i_226) := ez_237.trans (nI_add (100 * si + 10 * j_227) i_226)
              refine m_iald hx hb hK hP 0 0 rfl rfl (100 * si + 10 * j_227 + i_226) rfl (by omega) (by decide) dX10_beside_106 ?_
              refine lv_topi (fun v_238 ev_238 => ?_)
              obtain ⟨q_239, hq_239, Eq_239⟩ := hsp (100 * si + 10 * j_227 + i_226) (by omega)
              obtain rfl : v_238 = nI q_239 := ev_238.trans Eq_239
              refine lv_iload hx hb dX10_beside_107 (lv_at hl 6 rfl) ?_
              refine lv_icmp_ge (tgt := 132) hx hb dX10_beside_109 (by decide) (fun c_240 => ?_) (fun c_240 => ?_)
              · skip
                have c_240n : bq ≤ q_239 := (nI_leI (by omega) (by omega)).mp c_240
                have c_240 := Int32.not_lt.mpr c_240
                refine lv_iinc (v := nI (kq + 1)) (lv' := [(5, Value.int (nI (kq + 1))), (7, Value.int (nI j_227)), (6, Value.int (nI i_226)), (0, Value.ref h0), (1, Value.int (nI si)), (2, Value.int x), (3, Value.int y), (4, Value.int (nI bq))]) hx hb dX10_beside_132 hl (k := 7) rfl (nI_add kq 1) (by decide) rfl (fun ls hl => ?_)
                refine lv_goto (tgt := 8) hx hb dX10_beside_135 (by decide) ?_
                exact ih bq (kq + 1) (by omega) (by omega) (by omega) hsp (by omega) (by omega) (by omega) H locs (hP.sub [1, 0, 2, 3] rfl) (hD.sub [1, 0, 2, 3] (by decide) rfl) hS ls (lv_sub hl [3, 4, 5, 6, 7, 0] rfl)
              · skip
                have c_240n : q_239 < bq := nb_le (by omega) (by omega) c_240
                have c_240 := Int32.not_le.mp c_240
                refine lv_aload_n hx hb dX10_beside_112 rfl (lv_at hl 2 rfl) ?_
                refine va_get (D := D) (ci := 9) (v := Value.ref m_steps) (C := RX10) (T := TX10) (N := 37) hx hb hts inG_X10 hown hK hP 1 rfl rfl 35 (by decide) (hts _ kw_4_230) (fun _ h9 => h9) rfl dX10_beside_113 ?_
                refine lv_bipush (v := 100) hx hb dX10_beside_116 (by decide) ?_
                refine lv_iload_n hx hb dX10_beside_118 rfl (lv_at hl 3 rfl) ?_
                refine lv_imul hx hb dX10_beside_119 ?_
                refine lv_topi (fun z_241 ez_241 => ?_)
                obtain rfl : z_241 = nI (100 * si) := ez_241.trans (pk_mul 100 si)
                refine lv_bipush (v := 10) hx hb dX10_beside_120 (by decide) ?_
                refine lv_iload hx hb dX10_beside_122 (lv_at hl 0 rfl) ?_
                refine lv_imul hx hb dX10_beside_124 ?_
                refine lv_topi (fun z_242 ez_242 => ?_)
                obtain rfl : z_242 = nI (10 * j_227) := ez_242.trans (pk_mul 10 j_227)
                refine lv_iadd hx hb dX10_beside_125 ?_
                refine lv_topi (fun z_243 ez_243 => ?_)
                obtain rfl : z_243 = nI (100 * si + 10 * j_227) := ez_243.trans (nI_add (100 * si) (10 * j_227))
                refine lv_iload hx hb dX10_beside_126 (lv_at hl 1 rfl) ?_
                refine lv_iadd hx hb dX10_beside_128 ?_
                refine lv_topi (fun z_244 ez_244 => ?_)
                obtain rfl : z_244 = nI (100 * si + 10 * j_227 + i_226) := ez_244.trans (nI_add (100 * si + 10 * j_227) i_226)
                refine m_iald hx hb hK hP 0 0 rfl rfl (100 * si + 10 * j_227 + i_226) rfl (by omega) (by decide) dX10_beside_129 ?_
                refine lv_topi (fun v_245 ev_245 => ?_)
                obtain ⟨q_246, hq_246, Eq_246⟩ := hsp (100 * si + 10 * j_227 + i_226) (by omega)
                obtain rfl : v_245 = nI q_246 := ev_245.trans Eq_246
                refine lv_istore (lv' := [(4, Value.int (nI q_246)), (7, Value.int (nI j_227)), (6, Value.int (nI i_226)), (0, Value.ref h0), (1, Value.int (nI si)), (2, Value.int x), (3, Value.int y), (5, Value.int (nI kq))]) hx hb dX10_beside_130 hl (by decide) rfl (fun ls hl => ?_)
                refine lv_iinc (v := nI (kq + 1)) (lv' := [(5, Value.int (nI (kq + 1))), (4, Value.int (nI q_246)), (7, Value.int (nI j_227)), (6, Value.int (nI i_226)), (0, Value.ref h0), (1, Value.int (nI si)), (2, Value.int x), (3, Value.int y)]) hx hb dX10_beside_132 hl (k := 7) rfl (nI_add kq 1) (by decide) rfl (fun ls hl => ?_)
                refine lv_goto (tgt := 8) hx hb dX10_beside_135 (by decide) ?_
                exact ih q_246 (kq + 1) (by omega) (by omega) (by omega) hsp (by omega) (by omega) (by omega) H locs (hP.sub [1, 0, 2, 3] rfl) (hD.sub [1, 0, 2, 3] (by decide) rfl) hS ls (lv_sub hl [4, 5, 6, 7, 1, 0] rfl)
set_option maxHeartbeats 4000000 in
set_option maxRecDepth 100000 in
theorem n_beside (l : Launch) (D : va_G) (h0 : Nat) (m_tape : Nat) (ln : Nat) (s_thrown : Int32) (m_rule : Nat) (m_rules : Nat) (sn : Nat) (m_stair : Nat) (s_readStairs : Int32) (s_fault : Int32) (s_faultPlace : Int32) (w : Nat) (h : Nat) (m_low : Nat) (m_high : Nat) (m_crack : Nat) (bc : Nat) (m_weight : Nat) (m_fire : Nat) (m_crowd : Nat) (m_state : Nat) (m_where : Nat) (s_hours : Int32) (s_fees : Int32) (s_looks : Int32) (m_words : Nat) (s_end : Int32) (s_next : Int32) (s_kind : Int32) (s_which : Int32) (s_place : Int32) (s_read : Int32) (m_told : Nat) (m_breaks : Nat) (m_row : Nat) (m_tried : Nat) (m_steps : Nat) (m_paths : Nat) (y_steps : ClassId) (f_steps : Nat → Int32) (y_low : ClassId) (f_low : Nat → Int32) (y_crack : ClassId) (f_crack : Nat → Int32) (si : Nat) (x : Int32) (y : Int32) (hsi : si < 4) (hsp : rOK 10000 f_steps 400) (h3 : w ≤ 10) (h4 : h ≤ 10) : cI l yX10_beside (.code yX10_beside cX10_beside 8 (some .int)) ({ frames := 1, cells := 0, slots := 0, locals := 22 }) D [(y_steps, .int), (y_low, .int), (y_crack, .boolean)] [(h0, Sum.inr (9, [Value.ref m_tape, Value.int (nI ln), Value.int s_thrown, Value.ref m_rule, Value.ref m_rules, Value.int (nI sn), Value.ref m_stair, Value.int s_readStairs, Value.int s_fault, Value.int s_faultPlace, Value.int (nI w), Value.int (nI h), Value.ref m_low, Value.ref m_high, Value.ref m_crack, Value.int (nI bc), Value.ref m_weight, Value.ref m_fire, Value.ref m_crowd, Value.ref m_state, Value.ref m_where, Value.int s_hours, Value.int s_fees, Value.int s_looks, Value.ref m_words, Value.int s_end, Value.int s_next, Value.int s_kind, Value.int s_which, Value.int s_place, Value.int s_read, Value.ref m_told, Value.ref m_breaks, Value.ref m_row, Value.ref m_tried, Value.ref m_steps, Value.ref m_paths])), (m_steps, Sum.inl (y_steps, 400, Sum.inl f_steps)), (m_low, Sum.inl (y_low, 100, Sum.inl f_low)), (m_crack, Sum.inl (y_crack, 100, Sum.inl f_crack))] xT [Value.ref h0, Value.int (nI si), Value.int x, Value.int y] (S := Unit) (fun r _ => ∃ q : Nat, q ≤ 9999 ∧ r = nI q) (fun _ => []) (fun _ => [(h0, Sum.inr (9, [Value.ref m_tape, Value.int (nI ln), Value.int s_thrown, Value.ref m_rule, Value.ref m_rules, Value.int (nI sn), Value.ref m_stair, Value.int s_readStairs, Value.int s_fault, Value.int s_faultPlace, Value.int (nI w), Value.int (nI h), Value.ref m_low, Value.ref m_high, Value.ref m_crack, Value.int (nI bc), Value.ref m_weight, Value.ref m_fire, Value.ref m_crowd, Value.ref m_state, Value.ref m_where, Value.int s_hours, Value.int s_fees, Value.int s_looks, Value.ref m_words, Value.int s_end, Value.int s_next, Value.int s_kind, Value.int s_which, Value.int s_place, Value.int s_read, Value.ref m_told, Value.ref m_breaks, Value.ref m_row, Value.ref m_tried, Value.ref m_steps, Value.ref m_paths])), (m_steps, Sum.inl (y_steps, 400, Sum.inl f_steps)), (m_low, Sum.inl (y_low, 100, Sum.inl f_low)), (m_crack, Sum.inl (y_crack, 100, Sum.inl f_crack))]) := by
  intro sz
  refine Met.ofW (cc := cX10_beside) (maxL := 8) (ret := (some .int)) (by decide) rfl ?_
  intro p e s m args below meth c s₁ B hml hv
  obtain ⟨rfl, hsz, hP, hK, hD0, hX⟩ := hv
  have hx := B.exec
  have hb := B.bytes
  have hr := B.returns
  have hts0 := atoms_spec (ws := .code yX10_beside cX10_beside 8 (some .int) :: gw) B.pre
  have hts := fun (w : Cond) (h : w ∈ gw) => hts0 w (List.mem_cons_of_mem _ h)
  have hown : s.vm.findClass RX10 = some m.cls := findClass_of_methodNamed B.named
  have hlocks := B.notSynchronized
  have F : mFix p s m _ c cX10_beside 8 RX10 := ⟨hx, hb, hml, hown, hts⟩
  subst hsz
  have hD := hD0.self (sz := s.heap.size)
  generalize hAe : va_A [(h0, Sum.inr (9, [Value.ref m_tape, Value.int (nI ln), Value.int s_thrown, Value.ref m_rule, Value.ref m_rules, Value.int (nI sn), Value.ref m_stair, Value.int s_readStairs, Value.int s_fault, Value.int s_faultPlace, Value.int (nI w), Value.int (nI h), Value.ref m_low, Value.ref m_high, Value.ref m_crack, Value.int (nI bc), Value.ref m_weight, Value.ref m_fire, Value.ref m_crowd, Value.ref m_state, Value.ref m_where, Value.int s_hours, Value.int s_fees, Value.int s_looks, Value.ref m_words, Value.int s_end, Value.int s_next, Value.int s_kind, Value.int s_which, Value.int s_place, Value.int s_read, Value.ref m_told, Value.ref m_breaks, Value.ref m_row, Value.ref m_tried, Value.ref m_steps, Value.ref m_paths])), (m_steps, Sum.inl (y_steps, 400, Sum.inl f_steps)), (m_low, Sum.inl (y_low, 100, Sum.inl f_low)), (m_crack, Sum.inl (y_crack, 100, Sum.inl f_crack))] s.heap.size = A at hD hX ⊢
  have hA : ∀ q : Nat, s.heap.size ≤ q → A q := fun q h => by rw [← hAe]; exact Or.inr h
  have hS : va_S A s.heap s.heap [] := va_S.rf
  have hl := lv_entry ([Value.ref h0, Value.int (nI si), Value.int x, Value.int y]) (n := 8) (Nat.le_of_ble_eq_true rfl)
  rw [lg_entry_eq]
  generalize (lg_sl ([Value.ref h0, Value.int (nI si), Value.int x, Value.int y]) ++ List.replicate (8 - (lg_sl ([Value.ref h0, Value.int (nI si), Value.int x, Value.int y])).length) Slot.unset).toArray = ls at hl ⊢
  have hl : lv_has ls 8 [(0, Value.ref h0), (1, Value.int (nI si)), (2, Value.int x), (3, Value.int y)] := hl
  have hP : va_P D vwCl [(h0, Sum.inr (9, [Value.ref m_tape, Value.int (nI ln), Value.int s_thrown, Value.ref m_rule, Value.ref m_rules, Value.int (nI sn), Value.ref m_stair, Value.int s_readStairs, Value.int s_fault, Value.int s_faultPlace, Value.int (nI w), Value.int (nI h), Value.ref m_low, Value.ref m_high, Value.ref m_crack, Value.int (nI bc), Value.ref m_weight, Value.ref m_fire, Value.ref m_crowd, Value.ref m_state, Value.ref m_where, Value.int s_hours, Value.int s_fees, Value.int s_looks, Value.ref m_words, Value.int s_end, Value.int s_next, Value.int s_kind, Value.int s_which, Value.int s_place, Value.int s_read, Value.ref m_told, Value.ref m_breaks, Value.ref m_row, Value.ref m_tried, Value.ref m_steps, Value.ref m_paths])), (m_steps, Sum.inl (y_steps, 400, Sum.inl f_steps)), (m_low, Sum.inl (y_low, 100, Sum.inl f_low)), (m_crack, Sum.inl (y_crack, 100, Sum.inl f_crack))] s.heap := hP
  refine lv_sipush (v := 9999) hx hb dX10_beside_0 (by decide) ?_
  refine lv_istore (lv' := [(4, Value.int 9999), (0, Value.ref h0), (1, Value.int (nI si)), (2, Value.int x), (3, Value.int y)]) hx hb dX10_beside_3 hl (by decide) rfl (fun ls hl => ?_)
  refine lv_iconst (v := 0) hx hb dX10_beside_5 (by decide) ?_
  refine lv_istore (lv' := [(5, Value.int 0), (4, Value.int 9999), (0, Value.ref h0), (1, Value.int (nI si)), (2, Value.int x), (3, Value.int y)]) hx hb dX10_beside_6 hl (by decide) rfl (fun ls hl => ?_)
  refine lp_n_beside F hA h0 m_tape ln s_thrown m_rule m_rules sn m_stair s_readStairs s_fault s_faultPlace w h m_low m_high m_crack bc m_weight m_fire m_crowd m_state m_where s_hours s_fees s_looks m_words s_end s_next s_kind s_which s_place s_read m_told m_breaks m_row m_tried m_steps m_paths y_steps f_steps y_low f_low y_crack f_crack si x y (hK.sub [0, 1, 2] rfl) (fun bq_1 h_2 H locs hP hD hS ls hl => ?_) _ 9999 0 (by omega) (by omega) (by omega) hsp (by omega) (by omega) (Nat.lt_succ_self _) _ _ (hP.sub [0, 1, 2, 3] rfl) (hD.sub [0, 1, 2, 3] (by decide) rfl) hS ls (lv_sub hl [2, 3, 4, 5, 1, 0] rfl)
  have h_2 : bq_1 ≤ 9999 := h_2
  refine lv_iload hx hb dX10_beside_138 (lv_at hl 0 rfl) ?_
  have hP9 := hP.sub (ws' := [(h0, Sum.inr (9, [Value.ref m_tape, Value.int (nI ln), Value.int s_thrown, Value.ref m_rule, Value.ref m_rules, Value.int (nI sn), Value.ref m_stair, Value.int s_readStairs, Value.int s_fault, Value.int s_faultPlace, Value.int (nI w), Value.int (nI h), Value.ref m_low, Value.ref m_high, Value.ref m_crack, Value.int (nI bc), Value.ref m_weight, Value.ref m_fire, Value.ref m_crowd, Value.ref m_state, Value.ref m_where, Value.int s_hours, Value.int s_fees, Value.int s_looks, Value.ref m_words, Value.int s_end, Value.int s_next, Value.int s_kind, Value.int s_which, Value.int s_place, Value.int s_read, Value.ref m_told, Value.ref m_breaks, Value.ref m_row, Value.ref m_tried, Value.ref m_steps, Value.ref m_paths])), (m_steps, Sum.inl (y_steps, 400, Sum.inl f_steps)), (m_low, Sum.inl (y_low, 100, Sum.inl f_low)), (m_crack, Sum.inl (y_crack, 100, Sum.inl f_crack))]) [0, 1, 2, 3] rfl
  have hD9 := hD.sub (ws' := [(h0, Sum.inr (9, [Value.ref m_tape, Value.int (nI ln), Value.int s_thrown, Value.ref m_rule, Value.ref m_rules, Value.int (nI sn), Value.ref m_stair, Value.int s_readStairs, Value.int s_fault, Value.int s_faultPlace, Value.int (nI w), Value.int (nI h), Value.ref m_low, Value.ref m_high, Value.ref m_crack, Value.int (nI bc), Value.ref m_weight, Value.ref m_fire, Value.ref m_crowd, Value.ref m_state, Value.ref m_where, Value.int s_hours, Value.int s_fees, Value.int s_looks, Value.ref m_words, Value.int s_end, Value.int s_next, Value.int s_kind, Value.int s_which, Value.int s_place, Value.int s_read, Value.ref m_told, Value.ref m_breaks, Value.ref m_row, Value.ref m_tried, Value.ref m_steps, Value.ref m_paths])), (m_steps, Sum.inl (y_steps, 400, Sum.inl f_steps)), (m_low, Sum.inl (y_low, 100, Sum.inl f_low)), (m_crack, Sum.inl (y_crack, 100, Sum.inl f_crack))]) [0, 1, 2, 3] (by decide) rfl
  have hK9 := hK.sub (tys' := []) [] rfl
  refine W.widen (k := 0) (n := 0) (by decide) (by decide) ?_
  exact W.iret (v := nI bq_1) hx hb hr (fun t ht hW => ⟨⟨(nI bq_1), (), rfl, ⟨_, h_2, rfl⟩, by rw [ht]; exact hP9, va_K.moved hW.alike hK9, hD9⟩, hS.F ht⟩) hS.2.2 dX10_beside_140
set_option maxHeartbeats 4000000 in
set_option maxRecDepth 100000 in
theorem lp_n_walks1 {p : Program} {l : Launch} {e : Env} {s : State} {m : MethodId} {args : Array Value} {below : List Frame} {meth : Method} {c : Code} {Q : State → Prop} {A : Nat → Prop} {D : va_G} (F : mFix p s m args c cX10_walks 6 RX10) (hA : ∀ q, s.heap.size ≤ q → A q) (h0 : Nat) (m_tape : Nat) (ln : Nat) (s_thrown : Int32) (m_rule : Nat) (m_rules : Nat) (sn : Nat) (m_stair : Nat) (s_readStairs : Int32) (s_fault : Int32) (s_faultPlace : Int32) (w : Nat) (h : Nat) (m_low : Nat) (m_high : Nat) (m_crack : Nat) (bc : Nat) (m_weight : Nat) (m_fire : Nat) (m_crowd : Nat) (m_state : Nat) (m_where : Nat) (s_hours : Int32) (s_fees : Int32) (s_looks : Int32) (m_words : Nat) (s_end : Int32) (s_next : Int32) (s_kind : Int32) (s_which : Int32) (s_place : Int32) (s_read : Int32) (m_told : Nat) (m_breaks : Nat) (m_row : Nat) (m_tried : Nat) (m_steps : Nat) (m_paths : Nat) (y_steps : ClassId) (y_stair : ClassId) (f_stair : Nat → Int32) (y_low : ClassId) (f_low : Nat → Int32) (y_crack : ClassId) (f_crack : Nat → Int32) (hK : va_K D vwCl [(y_steps, .int), (y_stair, .int), (y_low, .int), (y_crack, .boolean)] s)
    (kx_24 : ∀ (g : Nat → Int32), (rOK 10000 g 400) → ∀ (H : Heap) (locs : List Loc), va_P D vwCl [(h0, Sum.inr (9, [Value.ref m_tape, Value.int (nI ln), Value.int s_thrown, Value.ref m_rule, Value.ref m_rules, Value.int (nI sn), Value.ref m_stair, Value.int s_readStairs, Value.int s_fault, Value.int s_faultPlace, Value.int (nI w), Value.int (nI h), Value.ref m_low, Value.ref m_high, Value.ref m_crack, Value.int (nI bc), Value.ref m_weight, Value.ref m_fire, Value.ref m_crowd, Value.ref m_state, Value.ref m_where, Value.int s_hours, Value.int s_fees, Value.int s_looks, Value.ref m_words, Value.int s_end, Value.int s_next, Value.int s_kind, Value.int s_which, Value.int s_place, Value.int s_read, Value.ref m_told, Value.ref m_breaks, Value.ref m_row, Value.ref m_tried, Value.ref m_steps, Value.ref m_paths])), (m_steps, Sum.inl (y_steps, 400, Sum.inl g)), (m_stair, Sum.inl (y_stair, 24, Sum.inl f_stair)), (m_low, Sum.inl (y_low, 100, Sum.inl f_low)), (m_crack, Sum.inl (y_crack, 100, Sum.inl f_crack))] H → va_D A [(h0, Sum.inr (9, [Value.ref m_tape, Value.int (nI ln), Value.int s_thrown, Value.ref m_rule, Value.ref m_rules, Value.int (nI sn), Value.ref m_stair, Value.int s_readStairs, Value.int s_fault, Value.int s_faultPlace, Value.int (nI w), Value.int (nI h), Value.ref m_low, Value.ref m_high, Value.ref m_crack, Value.int (nI bc), Value.ref m_weight, Value.ref m_fire, Value.ref m_crowd, Value.ref m_state, Value.ref m_where, Value.int s_hours, Value.int s_fees, Value.int s_looks, Value.ref m_words, Value.int s_end, Value.int s_next, Value.int s_kind, Value.int s_which, Value.int s_place, Value.int s_read, Value.ref m_told, Value.ref m_breaks, Value.ref m_row, Value.ref m_tried, Value.ref m_steps, Value.ref m_paths])), (m_steps, Sum.inl (y_steps, 400, Sum.inl g)), (m_stair, Sum.inl (y_stair, 24, Sum.inl f_stair)), (m_low, Sum.inl (y_low, 100, Sum.inl f_low)), (m_crack, Sum.inl (y_crack, 100, Sum.inl f_crack))] → va_S A s.heap H locs → ∀ ls : Array Slot, lv_has ls 6 [(0, Value.ref h0)] → W p l e ({ frames := 2, cells := 0, slots := 0, locals := 49 }) s m args below meth c H locs 0 0 Q (F0 m 24 ls [])) :
    ∀ n : Nat, ∀ (g : Nat → Int32) (i : Nat), (i ≤ 400) → (rOK 10000 g i) → (400 - i) < n → ∀ (H : Heap) (locs : List Loc), va_P D vwCl [(h0, Sum.inr (9, [Value.ref m_tape, Value.int (nI ln), Value.int s_thrown, Value.ref m_rule, Value.ref m_rules, Value.int (nI sn), Value.ref m_stair, Value.int s_readStairs, Value.int s_fault, Value.int s_faultPlace, Value.int (nI w), Value.int (nI h), Value.ref m_low, Value.ref m_high, Value.ref m_crack, Value.int (nI bc), Value.ref m_weight, Value.ref m_fire, Value.ref m_crowd, Value.ref m_state, Value.ref m_where, Value.int s_hours, Value.int s_fees, Value.int s_looks, Value.ref m_words, Value.int s_end, Value.int s_next, Value.int s_kind, Value.int s_which, Value.int s_place, Value.int s_read, Value.ref m_told, Value.ref m_breaks, Value.ref m_row, Value.ref m_tried, Value.ref m_steps, Value.ref m_paths])), (m_steps, Sum.inl (y_steps, 400, Sum.inl g)), (m_stair, Sum.inl (y_stair, 24, Sum.inl f_stair)), (m_low, Sum.inl (y_low, 100, Sum.inl f_low)), (m_crack, Sum.inl (y_crack, 100, Sum.inl f_crack))] H → va_D A [(h0, Sum.inr (9, [Value.ref m_tape, Value.int (nI ln), Value.int s_thrown, Value.ref m_rule, Value.ref m_rules, Value.int (nI sn), Value.ref m_stair, Value.int s_readStairs, Value.int s_fault, Value.int s_faultPlace, Value.int (nI w), Value.int (nI h), Value.ref m_low, Value.ref m_high, Value.ref m_crack, Value.int (nI bc), Value.ref m_weight, Value.ref m_fire, Value.ref m_crowd, Value.ref m_state, Value.ref m_where, Value.int s_hours, Value.int s_fees, Value.int s_looks, Value.ref m_words, Value.int s_end, Value.int s_next, Value.int s_kind, Value.int s_which, Value.int s_place, Value.int s_read, Value.ref m_told, Value.ref m_breaks, Value.ref m_row, Value.ref m_tried, Value.ref m_steps, Value.ref m_paths])), (m_steps, Sum.inl (y_steps, 400, Sum.inl g)), (m_stair, Sum.inl (y_stair, 24, Sum.inl f_stair)), (m_low, Sum.inl (y_low, 100, Sum.inl f_low)), (m_crack, Sum.inl (y_crack, 100, Sum.inl f_crack))] → va_S A s.heap H locs → ∀ ls : Array Slot, lv_has ls 6 [(0, Value.ref h0), (1, Value.int (nI i))] → W p l e ({ frames := 2, cells := 0, slots := 0, locals := 49 }) s m args below meth c H locs 0 0 Q (F0 m 2 ls []) := by
  intro n
  induction n with
  | zero => intro g i hi hsp hn; exact absurd hn (Nat.not_lt_zero _)
  | succ n ih =>
    intro g i hi hsp hn H locs hP hD hS ls hl
    obtain ⟨hx, hb, hml, hown, hts⟩ := id F
    refine lv_iload_n hx hb dX10_walks_2 rfl (lv_at hl 1 rfl) ?_
    refine lv_sipush (v := 400) hx hb dX10_walks_3 (by decide) ?_
    refine lv_icmp_ge (tgt := 24) hx hb dX10_walks_6 (by decide) (fun c_1 => ?_) (fun c_1 => ?_)
    · skip
      have c_1n : 400 ≤ i := (nI_leI (by omega) (by omega)).mp c_1
      have c_1 := Int32.not_lt.mpr c_1
      exact kx_24 g ((show i = 400 by omega) ▸ hsp) H locs (hP.sub [0, 1, 2, 3, 4] rfl) (hD.sub [0, 1, 2, 3, 4] (by decide) rfl) hS ls (lv_sub hl [0] rfl)
    · skip
      have c_1n : i < 400 := nb_le (by omega) (by omega) c_1
      have c_1 := Int32.not_le.mp c_1
      refine lv_aload_n hx hb dX10_walks_9 rfl (lv_at hl 0 rfl) ?_
      refine va_get (D := D) (ci := 9) (v := Value.ref m_steps) (C := RX10) (T := TX10) (N := 37) hx hb hts inG_X10 hown hK hP 0 rfl rfl 35 (by decide) (hts _ kw_4_230) (fun _ h9 => h9) rfl dX10_walks_10 ?_
      refine lv_iload_n hx hb dX10_walks_13 rfl (lv_at hl 1 rfl) ?_
      refine lv_sipush (v := 9999) hx hb dX10_walks_14 (by decide) ?_
      refine m_iast hx hb hK hP hD hS 1 0 rfl rfl i rfl (by omega) (by decide) dX10_walks_17 (fun g_2 H locs eg_2 hP hD hS => ?_)
      have hP : va_P D vwCl [(h0, Sum.inr (9, [Value.ref m_tape, Value.int (nI ln), Value.int s_thrown, Value.ref m_rule, Value.ref m_rules, Value.int (nI sn), Value.ref m_stair, Value.int s_readStairs, Value.int s_fault, Value.int s_faultPlace, Value.int (nI w), Value.int (nI h), Value.ref m_low, Value.ref m_high, Value.ref m_crack, Value.int (nI bc), Value.ref m_weight, Value.ref m_fire, Value.ref m_crowd, Value.ref m_state, Value.ref m_where, Value.int s_hours, Value.int s_fees, Value.int s_looks, Value.ref m_words, Value.int s_end, Value.int s_next, Value.int s_kind, Value.int s_which, Value.int s_place, Value.int s_read, Value.ref m_told, Value.ref m_breaks, Value.ref m_row, Value.ref m_tried, Value.ref m_steps, Value.ref m_paths])), (m_steps, Sum.inl (y_steps, 400, Sum.inl g_2)), (m_stair, Sum.inl (y_stair, 24, Sum.inl f_stair)), (m_low, Sum.inl (y_low, 100, Sum.inl f_low)), (m_crack, Sum.inl (y_crack, 100, Sum.inl f_crack))] H := hP
      have hD : va_D A [(h0, Sum.inr (9, [Value.ref m_tape, Value.int (nI ln), Value.int s_thrown, Value.ref m_rule, Value.ref m_rules, Value.int (nI sn), Value.ref m_stair, Value.int s_readStairs, Value.int s_fault, Value.int s_faultPlace, Value.int (nI w), Value.int (nI h), Value.ref m_low, Value.ref m_high, Value.ref m_crack, Value.int (nI bc), Value.ref m_weight, Value.ref m_fire, Value.ref m_crowd, Value.ref m_state, Value.ref m_where, Value.int s_hours, Value.int s_fees, Value.int s_looks, Value.ref m_words, Value.int s_end, Value.int s_next, Value.int s_kind, Value.int s_which, Value.int s_place, Value.int s_read, Value.ref m_told, Value.ref m_breaks, Value.ref m_row, Value.ref m_tried, Value.ref m_steps, Value.ref m_paths])), (m_steps, Sum.inl (y_steps, 400, Sum.inl g_2)), (m_stair, Sum.inl (y_stair, 24, Sum.inl f_stair)), (m_low, Sum.inl (y_low, 100, Sum.inl f_low)), (m_crack, Sum.inl (y_crack, 100, Sum.inl f_crack))] := hD
      refine lv_iinc (v := nI (i + 1)) (lv' := [(1, Value.int (nI (i + 1))), (0, Value.ref h0)]) hx hb dX10_walks_18 hl (k := 1) rfl (nI_add i 1) (by decide) rfl (fun ls hl => ?_)
      refine lv_goto (tgt := 2) hx hb dX10_walks_21 (by decide) ?_
      exact ih g_2 (i + 1) (by omega) (rOK_add (q := 9999) hsp eg_2 (by decide)) (by omega) H locs (hP.sub [0, 1, 2, 3, 4] rfl) (hD.sub [0, 1, 2, 3, 4] (by decide) rfl) hS ls (lv_sub hl [1, 0] rfl)
set_option maxHeartbeats 4000000 in
set_option maxRecDepth 100000 in
theorem lp_n_walks_x {p : Program} {l : Launch} {e : Env} {s : State} {m : MethodId} {args : Array Value} {below : List Frame} {meth : Method} {c : Code} {Q : State → Prop} {A : Nat → Prop} {D : va_G} (F : mFix p s m args c cX10_walks 6 RX10) (hA : ∀ q, s.heap.size ≤ q → A q) (h0 : Nat) (m_tape : Nat) (ln : Nat) (s_thrown : Int32) (m_rule : Nat) (m_rules : Nat) (sn : Nat) (m_stair : Nat) (s_readStairs : Int32) (s_fault : Int32) (s_faultPlace : Int32) (w : Nat) (h : Nat) (m_low : Nat) (m_high : Nat) (m_crack : Nat) (bc : Nat) (m_weight : Nat) (m_fire : Nat) (m_crowd : Nat) (m_state : Nat) (m_where : Nat) (s_hours : Int32) (s_fees : Int32) (s_looks : Int32) (m_words : Nat) (s_end : Int32) (s_next : Int32) (s_kind : Int32) (s_which : Int32) (s_place : Int32) (s_read : Int32) (m_told : Nat) (m_breaks : Nat) (m_row : Nat) (m_tried : Nat) (m_steps : Nat) (m_paths : Nat) (y_steps : ClassId) (y_stair : ClassId) (f_stair : Nat → Int32) (y_low : ClassId) (f_low : Nat → Int32) (y_crack : ClassId) (f_crack : Nat → Int32) (si : Nat) (j : Nat) (g0 : Nat → Int32) (hK : va_K D vwCl [(y_steps, .int), (y_stair, .int), (y_low, .int), (y_crack, .boolean)] s)
    (kx_172 : ∀ (g : Nat → Int32) (mo : Int32), (rOK 10000 g 400) → (wk g0 g mo) → ∀ (H : Heap) (locs : List Loc), va_P D vwCl [(h0, Sum.inr (9, [Value.ref m_tape, Value.int (nI ln), Value.int s_thrown, Value.ref m_rule, Value.ref m_rules, Value.int (nI sn), Value.ref m_stair, Value.int s_readStairs, Value.int s_fault, Value.int s_faultPlace, Value.int (nI w), Value.int (nI h), Value.ref m_low, Value.ref m_high, Value.ref m_crack, Value.int (nI bc), Value.ref m_weight, Value.ref m_fire, Value.ref m_crowd, Value.ref m_state, Value.ref m_where, Value.int s_hours, Value.int s_fees, Value.int s_looks, Value.ref m_words, Value.int s_end, Value.int s_next, Value.int s_kind, Value.int s_which, Value.int s_place, Value.int s_read, Value.ref m_told, Value.ref m_breaks, Value.ref m_row, Value.ref m_tried, Value.ref m_steps, Value.ref m_paths])), (m_steps, Sum.inl (y_steps, 400, Sum.inl g)), (m_stair, Sum.inl (y_stair, 24, Sum.inl f_stair)), (m_low, Sum.inl (y_low, 100, Sum.inl f_low)), (m_crack, Sum.inl (y_crack, 100, Sum.inl f_crack))] H → va_D A [(h0, Sum.inr (9, [Value.ref m_tape, Value.int (nI ln), Value.int s_thrown, Value.ref m_rule, Value.ref m_rules, Value.int (nI sn), Value.ref m_stair, Value.int s_readStairs, Value.int s_fault, Value.int s_faultPlace, Value.int (nI w), Value.int (nI h), Value.ref m_low, Value.ref m_high, Value.ref m_crack, Value.int (nI bc), Value.ref m_weight, Value.ref m_fire, Value.ref m_crowd, Value.ref m_state, Value.ref m_where, Value.int s_hours, Value.int s_fees, Value.int s_looks, Value.ref m_words, Value.int s_end, Value.int s_next, Value.int s_kind, Value.int s_which, Value.int s_place, Value.int s_read, Value.ref m_told, Value.ref m_breaks, Value.ref m_row, Value.ref m_tried, Value.ref m_steps, Value.ref m_paths])), (m_steps, Sum.inl (y_steps, 400, Sum.inl g)), (m_stair, Sum.inl (y_stair, 24, Sum.inl f_stair)), (m_low, Sum.inl (y_low, 100, Sum.inl f_low)), (m_crack, Sum.inl (y_crack, 100, Sum.inl f_crack))] → va_S A s.heap H locs → ∀ ls : Array Slot, lv_has ls 6 [(0, Value.ref h0), (1, Value.int (nI si)), (2, Value.int mo), (3, Value.int (nI j))] → W p l e ({ frames := 2, cells := 0, slots := 0, locals := 49 }) s m args below meth c H locs 0 0 Q (F0 m 172 ls [])) :
    ∀ n : Nat, ∀ (g : Nat → Int32) (mo : Int32) (i : Nat), (i ≤ w) → (j < h) → (si < 4) → (w ≤ 10) → (h ≤ 10) → (rOK 10000 g 400) → (wk g0 g mo) → (w - i) < n → ∀ (H : Heap) (locs : List Loc), va_P D vwCl [(h0, Sum.inr (9, [Value.ref m_tape, Value.int (nI ln), Value.int s_thrown, Value.ref m_rule, Value.ref m_rules, Value.int (nI sn), Value.ref m_stair, Value.int s_readStairs, Value.int s_fault, Value.int s_faultPlace, Value.int (nI w), Value.int (nI h), Value.ref m_low, Value.ref m_high, Value.ref m_crack, Value.int (nI bc), Value.ref m_weight, Value.ref m_fire, Value.ref m_crowd, Value.ref m_state, Value.ref m_where, Value.int s_hours, Value.int s_fees, Value.int s_looks, Value.ref m_words, Value.int s_end, Value.int s_next, Value.int s_kind, Value.int s_which, Value.int s_place, Value.int s_read, Value.ref m_told, Value.ref m_breaks, Value.ref m_row, Value.ref m_tried, Value.ref m_steps, Value.ref m_paths])), (m_steps, Sum.inl (y_steps, 400, Sum.inl g)), (m_stair, Sum.inl (y_stair, 24, Sum.inl f_stair)), (m_low, Sum.inl (y_low, 100, Sum.inl f_low)), (m_crack, Sum.inl (y_crack, 100, Sum.inl f_crack))] H → va_D A [(h0, Sum.inr (9, [Value.ref m_tape, Value.int (nI ln), Value.int s_thrown, Value.ref m_rule, Value.ref m_rules, Value.int (nI sn), Value.ref m_stair, Value.int s_readStairs, Value.int s_fault, Value.int s_faultPlace, Value.int (nI w), Value.int (nI h), Value.ref m_low, Value.ref m_high, Value.ref m_crack, Value.int (nI bc), Value.ref m_weight, Value.ref m_fire, Value.ref m_crowd, Value.ref m_state, Value.ref m_where, Value.int s_hours, Value.int s_fees, Value.int s_looks, Value.ref m_words, Value.int s_end, Value.int s_next, Value.int s_kind, Value.int s_which, Value.int s_place, Value.int s_read, Value.ref m_told, Value.ref m_breaks, Value.ref m_row, Value.ref m_tried, Value.ref m_steps, Value.ref m_paths])), (m_steps, Sum.inl (y_steps, 400, Sum.inl g)), (m_stair, Sum.inl (y_stair, 24, Sum.inl f_stair)), (m_low, Sum.inl (y_low, 100, Sum.inl f_low)), (m_crack, Sum.inl (y_crack, 100, Sum.inl f_crack))] → va_S A s.heap H locs → ∀ ls : Array Slot, lv_has ls 6 [(0, Value.ref h0), (1, Value.int (nI si)), (2, Value.int mo), (3, Value.int (nI j)), (4, Value.int (nI i))] → W p l e ({ frames := 2, cells := 0, slots := 0, locals := 49 }) s m args below meth c H locs 0 0 Q (F0 m 85 ls []) := by
  intro n
  induction n with
  | zero => intro g mo i hi hj hsi h3 h4 hsp hwk hn; exact absurd hn (Nat.not_lt_zero _)
  | succ n ih =>
    intro g mo i hi hj hsi h3 h4 hsp hwk hn H locs hP hD hS ls hl
    obtain ⟨hx, hb, hml, hown, hts⟩ := id F
    refine lv_iload hx hb dX10_walks_85 (lv_at hl 4 rfl) ?_
    refine lv_aload_n hx hb dX10_walks_87 rfl (lv_at hl 0 rfl) ?_
    refine va_get (D := D) (ci := 9) (v := Value.int (nI w)) (C := RX10) (T := TX10) (N := 37) hx hb hts inG_X10 hown hK hP 0 rfl rfl 10 (by decide) (hts _ kw_4_205) (fun _ h9 => h9) rfl dX10_walks_88 ?_
    refine lv_icmp_ge (tgt := 172) hx hb dX10_walks_91 (by decide) (fun c_1 => ?_) (fun c_1 => ?_)
    · skip
      have c_1n : w ≤ i := (nI_leI (by omega) (by omega)).mp c_1
      have c_1 := Int32.not_lt.mpr c_1
      exact kx_172 g mo hsp hwk H locs (hP.sub [0, 1, 2, 3, 4] rfl) (hD.sub [0, 1, 2, 3, 4] (by decide) rfl) hS ls (lv_sub hl [0, 1, 2, 3] rfl)
    · skip
      have c_1n : i < w := nb_le (by omega) (by omega) c_1
      have c_1 := Int32.not_le.mp c_1
      refine lv_aload_n hx hb dX10_walks_94 rfl (lv_at hl 0 rfl) ?_
      refine lv_bipush (v := 10) hx hb dX10_walks_95 (by decide) ?_
      refine lv_iload_n hx hb dX10_walks_97 rfl (lv_at hl 3 rfl) ?_
      refine lv_imul hx hb dX10_walks_98 ?_
      refine lv_topi (fun z_2 ez_2 => ?_)
      obtain rfl : z_2 = nI (10 * j) := ez_2.trans (pk_mul 10 j)
      refine lv_iload hx hb dX10_walks_99 (lv_at hl 4 rfl) ?_
      refine lv_iadd hx hb dX10_walks_101 ?_
      refine lv_topi (fun z_3 ez_3 => ?_)
      obtain rfl : z_3 = nI (10 * j + i) := ez_3.trans (nI_add (10 * j) i)
      refine mc_Vi (rest := []) (wr := [(m_steps, Sum.inl (y_steps, 400, Sum.inl g)), (m_stair, Sum.inl (y_stair, 24, Sum.inl f_stair))]) F hK hP hD hS hA (n_isOpen l D h0 m_tape ln s_thrown m_rule m_rules sn m_stair s_readStairs s_fault s_faultPlace w h m_low m_high m_crack bc m_weight m_fire m_crowd m_state m_where s_hours s_fees s_looks m_words s_end s_next s_kind s_which s_place s_read m_told m_breaks m_row m_tried m_steps m_paths y_low f_low y_crack f_crack (10 * j + i) (by omega)) ⟨gk_X10_174.1, gk_X10_174.2, Nat.le_of_ble_eq_true rfl, Nat.le_of_ble_eq_true rfl⟩ [0, 3, 4] [1, 2] [2, 3] ⟨rfl, rfl, rfl, rfl, by decide⟩ rfl xT_move (fun _ _ _ => trivial) 0 rfl rfl rfl hl.1 rfl (Nat.le_of_ble_eq_true rfl) dX10_walks_102 ⟨Nat.le_of_ble_eq_true rfl, Nat.le_of_ble_eq_true rfl⟩ (fun r_4 _ H locs hw hK1 hP hD hS => ?_)
      have hP : va_P D vwCl [(m_steps, Sum.inl (y_steps, 400, Sum.inl g)), (m_stair, Sum.inl (y_stair, 24, Sum.inl f_stair)), (h0, Sum.inr (9, [Value.ref m_tape, Value.int (nI ln), Value.int s_thrown, Value.ref m_rule, Value.ref m_rules, Value.int (nI sn), Value.ref m_stair, Value.int s_readStairs, Value.int s_fault, Value.int s_faultPlace, Value.int (nI w), Value.int (nI h), Value.ref m_low, Value.ref m_high, Value.ref m_crack, Value.int (nI bc), Value.ref m_weight, Value.ref m_fire, Value.ref m_crowd, Value.ref m_state, Value.ref m_where, Value.int s_hours, Value.int s_fees, Value.int s_looks, Value.ref m_words, Value.int s_end, Value.int s_next, Value.int s_kind, Value.int s_which, Value.int s_place, Value.int s_read, Value.ref m_told, Value.ref m_breaks, Value.ref m_row, Value.ref m_tried, Value.ref m_steps, Value.ref m_paths])), (m_low, Sum.inl (y_low, 100, Sum.inl f_low)), (m_crack, Sum.inl (y_crack, 100, Sum.inl f_crack))] H := hP
      have hD : va_D A [(m_steps, Sum.inl (y_steps, 400, Sum.inl g)), (m_stair, Sum.inl (y_stair, 24, Sum.inl f_stair)), (h0, Sum.inr (9, [Value.ref m_tape, Value.int (nI ln), Value.int s_thrown, Value.ref m_rule, Value.ref m_rules, Value.int (nI sn), Value.ref m_stair, Value.int s_readStairs, Value.int s_fault, Value.int s_faultPlace, Value.int (nI w), Value.int (nI h), Value.ref m_low, Value.ref m_high, Value.ref m_crack, Value.int (nI bc), Value.ref m_weight, Value.ref m_fire, Value.ref m_crowd, Value.ref m_state, Value.ref m_where, Value.int s_hours, Value.int s_fees, Value.int s_looks, Value.ref m_words, Value.int s_end, Value.int s_next, Value.int s_kind, Value.int s_which, Value.int s_place, Value.int s_read, Value.ref m_told, Value.ref m_breaks, Value.ref m_row, Value.ref m_tried, Value.ref m_steps, Value.ref m_paths])), (m_low, Sum.inl (y_low, 100, Sum.inl f_low)), (m_crack, Sum.inl (y_crack, 100, Sum.inl f_crack))] := hD
      have hw_5 : r_4 = 0 ∨ r_4 = 1 := hw
      refine lv_if_ne (tgt := 111) hx hb dX10_walks_105 (by decide) (fun c_6 => ?_) (fun c_6 => ?_)
      · skip
        refine lv_aload_n hx hb dX10_walks_111 rfl (lv_at hl 0 rfl) ?_
        refine lv_iload_n hx hb dX10_walks_112 rfl (lv_at hl 1 rfl) ?_
        refine lv_iload hx hb dX10_walks_113 (lv_at hl 4 rfl) ?_
        refine lv_iload_n hx hb dX10_walks_115 rfl (lv_at hl 3 rfl) ?_
        refine mc_Vi (rest := []) (wr := [(m_stair, Sum.inl (y_stair, 24, Sum.inl f_stair))]) F hK hP hD hS hA (n_beside l D h0 m_tape ln s_thrown m_rule m_rules sn m_stair s_readStairs s_fault s_faultPlace w h m_low m_high m_crack bc m_weight m_fire m_crowd m_state m_where s_hours s_fees s_looks m_words s_end s_next s_kind s_which s_place s_read m_told m_breaks m_row m_tried m_steps m_paths y_steps g y_low f_low y_crack f_crack si (nI i) (nI j) (by omega) hsp (by omega) (by omega)) ⟨gk_X10_198.1, gk_X10_198.2, Nat.le_of_ble_eq_true rfl, Nat.le_of_ble_eq_true rfl⟩ [2, 0, 3, 4] [1] [0, 2, 3] ⟨rfl, rfl, rfl, rfl, by decide⟩ rfl xT_move (fun _ _ _ => trivial) 2 rfl rfl rfl hl.1 rfl (Nat.le_of_ble_eq_true rfl) dX10_walks_116 ⟨Nat.le_of_ble_eq_true rfl, Nat.le_of_ble_eq_true rfl⟩ (fun r_7 _ H locs hw hK1 hP hD hS => ?_)
        have hP : va_P D vwCl [(m_stair, Sum.inl (y_stair, 24, Sum.inl f_stair)), (h0, Sum.inr (9, [Value.ref m_tape, Value.int (nI ln), Value.int s_thrown, Value.ref m_rule, Value.ref m_rules, Value.int (nI sn), Value.ref m_stair, Value.int s_readStairs, Value.int s_fault, Value.int s_faultPlace, Value.int (nI w), Value.int (nI h), Value.ref m_low, Value.ref m_high, Value.ref m_crack, Value.int (nI bc), Value.ref m_weight, Value.ref m_fire, Value.ref m_crowd, Value.ref m_state, Value.ref m_where, Value.int s_hours, Value.int s_fees, Value.int s_looks, Value.ref m_words, Value.int s_end, Value.int s_next, Value.int s_kind, Value.int s_which, Value.int s_place, Value.int s_read, Value.ref m_told, Value.ref m_breaks, Value.ref m_row, Value.ref m_tried, Value.ref m_steps, Value.ref m_paths])), (m_steps, Sum.inl (y_steps, 400, Sum.inl g)), (m_low, Sum.inl (y_low, 100, Sum.inl f_low)), (m_crack, Sum.inl (y_crack, 100, Sum.inl f_crack))] H := hP
        have hD : va_D A [(m_stair, Sum.inl (y_stair, 24, Sum.inl f_stair)), (h0, Sum.inr (9, [Value.ref m_tape, Value.int (nI ln), Value.int s_thrown, Value.ref m_rule, Value.ref m_rules, Value.int (nI sn), Value.ref m_stair, Value.int s_readStairs, Value.int s_fault, Value.int s_faultPlace, Value.int (nI w), Value.int (nI h), Value.ref m_low, Value.ref m_high, Value.ref m_crack, Value.int (nI bc), Value.ref m_weight, Value.ref m_fire, Value.ref m_crowd, Value.ref m_state, Value.ref m_where, Value.int s_hours, Value.int s_fees, Value.int s_looks, Value.ref m_words, Value.int s_end, Value.int s_next, Value.int s_kind, Value.int s_which, Value.int s_place, Value.int s_read, Value.ref m_told, Value.ref m_breaks, Value.ref m_row, Value.ref m_tried, Value.ref m_steps, Value.ref m_paths])), (m_steps, Sum.inl (y_steps, 400, Sum.inl g)), (m_low, Sum.inl (y_low, 100, Sum.inl f_low)), (m_crack, Sum.inl (y_crack, 100, Sum.inl f_crack))] := hD
        have hw_8 : ∃ q : Nat, q ≤ 9999 ∧ r_7 = nI q := hw
        obtain ⟨q_9, hq_9, Eq_9⟩ := hw_8
        subst Eq_9
        refine lv_iconst (v := 1) hx hb dX10_walks_119 (by decide) ?_
        refine lv_iadd hx hb dX10_walks_120 ?_
        refine lv_topi (fun z_10 ez_10 => ?_)
        obtain rfl : z_10 = nI (q_9 + 1) := ez_10.trans (nI_add q_9 1)
        refine lv_istore (lv' := [(5, Value.int (nI (q_9 + 1))), (0, Value.ref h0), (1, Value.int (nI si)), (2, Value.int mo), (3, Value.int (nI j)), (4, Value.int (nI i))]) hx hb dX10_walks_121 hl (by decide) rfl (fun ls hl => ?_)
        refine lv_iload hx hb dX10_walks_123 (lv_at hl 0 rfl) ?_
        refine lv_aload_n hx hb dX10_walks_125 rfl (lv_at hl 1 rfl) ?_
        refine va_get (D := D) (ci := 9) (v := Value.ref m_steps) (C := RX10) (T := TX10) (N := 37) hx hb hts inG_X10 hown hK hP 1 rfl rfl 35 (by decide) (hts _ kw_4_230) (fun _ h9 => h9) rfl dX10_walks_126 ?_
        refine lv_bipush (v := 100) hx hb dX10_walks_129 (by decide) ?_
        refine lv_iload_n hx hb dX10_walks_131 rfl (lv_at hl 2 rfl) ?_
        refine lv_imul hx hb dX10_walks_132 ?_
        refine lv_topi (fun z_11 ez_11 => ?_)
        obtain rfl : z_11 = nI (100 * si) := ez_11.trans (pk_mul 100 si)
        refine lv_bipush (v := 10) hx hb dX10_walks_133 (by decide) ?_
        refine lv_iload_n hx hb dX10_walks_135 rfl (lv_at hl 4 rfl) ?_
        refine lv_imul hx hb dX10_walks_136 ?_
        refine lv_topi (fun z_12 ez_12 => ?_)
        obtain rfl : z_12 = nI (10 * j) := ez_12.trans (pk_mul 10 j)
        refine lv_iadd hx hb dX10_walks_137 ?_
        refine lv_topi (fun z_13 ez_13 => ?_)
        obtain rfl : z_13 = nI (100 * si + 10 * j) := ez_13.trans (nI_add (100 * si) (10 * j))
        refine lv_iload hx hb dX10_walks_138 (lv_at hl 5 rfl) ?_
        refine lv_iadd hx hb dX10_walks_140 ?_
        refine lv_topi (fun z_14 ez_14 => ?_)
        obtain rfl : z_14 = nI (100 * si + 10 * j + i) := ez_14.trans (nI_add (100 * si + 10 * j) i)
        refine m_iald hx hb hK hP 2 0 rfl rfl (100 * si + 10 * j + i) rfl (by omega) (by decide) dX10_walks_141 ?_
        refine lv_topi (fun v_15 ev_15 => ?_)
        obtain ⟨q_16, hq_16, Eq_16⟩ := hsp (100 * si + 10 * j + i) (by omega)
        obtain rfl : v_15 = nI q_16 := ev_15.trans Eq_16
        refine lv_icmp_ge (tgt := 166) hx hb dX10_walks_142 (by decide) (fun c_17 => ?_) (fun c_17 => ?_)
        · skip
          have c_17n : q_16 ≤ (q_9 + 1) := (nI_leI (by omega) (by omega)).mp c_17
          have c_17 := Int32.not_lt.mpr c_17
          refine lv_iinc (v := nI (i + 1)) (lv' := [(4, Value.int (nI (i + 1))), (5, Value.int (nI (q_9 + 1))), (0, Value.ref h0), (1, Value.int (nI si)), (2, Value.int mo), (3, Value.int (nI j))]) hx hb dX10_walks_166 hl (k := 5) rfl (nI_add i 1) (by decide) rfl (fun ls hl => ?_)
          refine lv_goto (tgt := 85) hx hb dX10_walks_169 (by decide) ?_
          exact ih g mo (i + 1) (by omega) (by omega) (by omega) (by omega) (by omega) hsp hwk (by omega) H locs (hP.sub [1, 2, 0, 3, 4] rfl) (hD.sub [1, 2, 0, 3, 4] (by decide) rfl) hS ls (lv_sub hl [2, 3, 4, 5, 0] rfl)
        · skip
          have c_17n : (q_9 + 1) < q_16 := nb_le (by omega) (by omega) c_17
          have c_17 := Int32.not_le.mp c_17
          refine lv_aload_n hx hb dX10_walks_145 rfl (lv_at hl 1 rfl) ?_
          refine va_get (D := D) (ci := 9) (v := Value.ref m_steps) (C := RX10) (T := TX10) (N := 37) hx hb hts inG_X10 hown hK hP 1 rfl rfl 35 (by decide) (hts _ kw_4_230) (fun _ h9 => h9) rfl dX10_walks_146 ?_
          refine lv_bipush (v := 100) hx hb dX10_walks_149 (by decide) ?_
          refine lv_iload_n hx hb dX10_walks_151 rfl (lv_at hl 2 rfl) ?_
          refine lv_imul hx hb dX10_walks_152 ?_
          refine lv_topi (fun z_18 ez_18 => ?_)
          obtain rfl : z_18 = nI (100 * si) := ez_18.trans (pk_mul 100 si)
          refine lv_bipush (v := 10) hx hb dX10_walks_153 (by decide) ?_
          refine lv_iload_n hx hb dX10_walks_155 rfl (lv_at hl 4 rfl) ?_
          refine lv_imul hx hb dX10_walks_156 ?_
          refine lv_topi (fun z_19 ez_19 => ?_)
          obtain rfl : z_19 = nI (10 * j) := ez_19.trans (pk_mul 10 j)
          refine lv_iadd hx hb dX10_walks_157 ?_
          refine lv_topi (fun z_20 ez_20 => ?_)
          obtain rfl : z_20 = nI (100 * si + 10 * j) := ez_20.trans (nI_add (100 * si) (10 * j))
          refine lv_iload hx hb dX10_walks_158 (lv_at hl 5 rfl) ?_
          refine lv_iadd hx hb dX10_walks_160 ?_
          refine lv_topi (fun z_21 ez_21 => ?_)
          obtain rfl : z_21 = nI (100 * si + 10 * j + i) := ez_21.trans (nI_add (100 * si + 10 * j) i)
          refine lv_iload hx hb dX10_walks_161 (lv_at hl 0 rfl) ?_
          refine m_iast hx hb hK hP hD hS 2 0 rfl rfl (100 * si + 10 * j + i) rfl (by omega) (by decide) dX10_walks_163 (fun g_22 H locs eg_22 hP hD hS => ?_)
          have hP : va_P D vwCl [(m_stair, Sum.inl (y_stair, 24, Sum.inl f_stair)), (h0, Sum.inr (9, [Value.ref m_tape, Value.int (nI ln), Value.int s_thrown, Value.ref m_rule, Value.ref m_rules, Value.int (nI sn), Value.ref m_stair, Value.int s_readStairs, Value.int s_fault, Value.int s_faultPlace, Value.int (nI w), Value.int (nI h), Value.ref m_low, Value.ref m_high, Value.ref m_crack, Value.int (nI bc), Value.ref m_weight, Value.ref m_fire, Value.ref m_crowd, Value.ref m_state, Value.ref m_where, Value.int s_hours, Value.int s_fees, Value.int s_looks, Value.ref m_words, Value.int s_end, Value.int s_next, Value.int s_kind, Value.int s_which, Value.int s_place, Value.int s_read, Value.ref m_told, Value.ref m_breaks, Value.ref m_row, Value.ref m_tried, Value.ref m_steps, Value.ref m_paths])), (m_steps, Sum.inl (y_steps, 400, Sum.inl g_22)), (m_low, Sum.inl (y_low, 100, Sum.inl f_low)), (m_crack, Sum.inl (y_crack, 100, Sum.inl f_crack))] H := hP
          have hD : va_D A [(m_stair, Sum.inl (y_stair, 24, Sum.inl f_stair)), (h0, Sum.inr (9, [Value.ref m_tape, Value.int (nI ln), Value.int s_thrown, Value.ref m_rule, Value.ref m_rules, Value.int (nI sn), Value.ref m_stair, Value.int s_readStairs, Value.int s_fault, Value.int s_faultPlace, Value.int (nI w), Value.int (nI h), Value.ref m_low, Value.ref m_high, Value.ref m_crack, Value.int (nI bc), Value.ref m_weight, Value.ref m_fire, Value.ref m_crowd, Value.ref m_state, Value.ref m_where, Value.int s_hours, Value.int s_fees, Value.int s_looks, Value.ref m_words, Value.int s_end, Value.int s_next, Value.int s_kind, Value.int s_which, Value.int s_place, Value.int s_read, Value.ref m_told, Value.ref m_breaks, Value.ref m_row, Value.ref m_tried, Value.ref m_steps, Value.ref m_paths])), (m_steps, Sum.inl (y_steps, 400, Sum.inl g_22)), (m_low, Sum.inl (y_low, 100, Sum.inl f_low)), (m_crack, Sum.inl (y_crack, 100, Sum.inl f_crack))] := hD
          refine lv_iconst (v := 1) hx hb dX10_walks_164 (by decide) ?_
          refine lv_istore_n (lv' := [(2, Value.int 1), (5, Value.int (nI (q_9 + 1))), (0, Value.ref h0), (1, Value.int (nI si)), (3, Value.int (nI j)), (4, Value.int (nI i))]) hx hb dX10_walks_165 rfl hl (by decide) rfl (fun ls hl => ?_)
          refine lv_iinc (v := nI (i + 1)) (lv' := [(4, Value.int (nI (i + 1))), (2, Value.int 1), (5, Value.int (nI (q_9 + 1))), (0, Value.ref h0), (1, Value.int (nI si)), (3, Value.int (nI j))]) hx hb dX10_walks_166 hl (k := 5) rfl (nI_add i 1) (by decide) rfl (fun ls hl => ?_)
          refine lv_goto (tgt := 85) hx hb dX10_walks_169 (by decide) ?_
          exact ih g_22 1 (i + 1) (by omega) (by omega) (by omega) (by omega) (by omega) (rOK_upd hsp eg_22 (by omega)) (wk_s hwk eg_22 Eq_16 (by omega) (by omega) (by omega)) (by omega) H locs (hP.sub [1, 2, 0, 3, 4] rfl) (hD.sub [1, 2, 0, 3, 4] (by decide) rfl) hS ls (lv_sub hl [3, 4, 1, 5, 0] rfl)
      · skip
        refine lv_goto (tgt := 166) hx hb dX10_walks_108 (by decide) ?_
        refine lv_iinc (v := nI (i + 1)) (lv' := [(4, Value.int (nI (i + 1))), (0, Value.ref h0), (1, Value.int (nI si)), (2, Value.int mo), (3, Value.int (nI j))]) hx hb dX10_walks_166 hl (k := 4) rfl (nI_add i 1) (by decide) rfl (fun ls hl => ?_)
        refine lv_goto (tgt := 85) hx hb dX10_walks_169 (by decide) ?_
        exact ih g mo (i + 1) (by omega) (by omega) (by omega) (by omega) (by omega) hsp hwk (by omega) H locs (hP.sub [2, 0, 1, 3, 4] rfl) (hD.sub [2, 0, 1, 3, 4] (by decide) rfl) hS ls (lv_sub hl [1, 2, 3, 4, 0] rfl)
set_option maxHeartbeats 4000000 in
set_option maxRecDepth 100000 in
theorem lp_n_walks_y {p : Program} {l : Launch} {e : Env} {s : State} {m : MethodId} {args : Array Value} {below : List Frame} {meth : Method} {c : Code} {Q : State → Prop} {A : Nat → Prop} {D : va_G} (F : mFix p s m args c cX10_walks 6 RX10) (hA : ∀ q, s.heap.size ≤ q → A q) (h0 : Nat) (m_tape : Nat) (ln : Nat) (s_thrown : Int32) (m_rule : Nat) (m_rules : Nat) (sn : Nat) (m_stair : Nat) (s_readStairs : Int32) (s_fault : Int32) (s_faultPlace : Int32) (w : Nat) (h : Nat) (m_low : Nat) (m_high : Nat) (m_crack : Nat) (bc : Nat) (m_weight : Nat) (m_fire : Nat) (m_crowd : Nat) (m_state : Nat) (m_where : Nat) (s_hours : Int32) (s_fees : Int32) (s_looks : Int32) (m_words : Nat) (s_end : Int32) (s_next : Int32) (s_kind : Int32) (s_which : Int32) (s_place : Int32) (s_read : Int32) (m_told : Nat) (m_breaks : Nat) (m_row : Nat) (m_tried : Nat) (m_steps : Nat) (m_paths : Nat) (y_steps : ClassId) (y_stair : ClassId) (f_stair : Nat → Int32) (y_low : ClassId) (f_low : Nat → Int32) (y_crack : ClassId) (f_crack : Nat → Int32) (si : Nat) (g0 : Nat → Int32) (hK : va_K D vwCl [(y_steps, .int), (y_stair, .int), (y_low, .int), (y_crack, .boolean)] s)
    (kx_178 : ∀ (g : Nat → Int32) (mo : Int32), (rOK 10000 g 400) → (wk g0 g mo) → ∀ (H : Heap) (locs : List Loc), va_P D vwCl [(h0, Sum.inr (9, [Value.ref m_tape, Value.int (nI ln), Value.int s_thrown, Value.ref m_rule, Value.ref m_rules, Value.int (nI sn), Value.ref m_stair, Value.int s_readStairs, Value.int s_fault, Value.int s_faultPlace, Value.int (nI w), Value.int (nI h), Value.ref m_low, Value.ref m_high, Value.ref m_crack, Value.int (nI bc), Value.ref m_weight, Value.ref m_fire, Value.ref m_crowd, Value.ref m_state, Value.ref m_where, Value.int s_hours, Value.int s_fees, Value.int s_looks, Value.ref m_words, Value.int s_end, Value.int s_next, Value.int s_kind, Value.int s_which, Value.int s_place, Value.int s_read, Value.ref m_told, Value.ref m_breaks, Value.ref m_row, Value.ref m_tried, Value.ref m_steps, Value.ref m_paths])), (m_steps, Sum.inl (y_steps, 400, Sum.inl g)), (m_stair, Sum.inl (y_stair, 24, Sum.inl f_stair)), (m_low, Sum.inl (y_low, 100, Sum.inl f_low)), (m_crack, Sum.inl (y_crack, 100, Sum.inl f_crack))] H → va_D A [(h0, Sum.inr (9, [Value.ref m_tape, Value.int (nI ln), Value.int s_thrown, Value.ref m_rule, Value.ref m_rules, Value.int (nI sn), Value.ref m_stair, Value.int s_readStairs, Value.int s_fault, Value.int s_faultPlace, Value.int (nI w), Value.int (nI h), Value.ref m_low, Value.ref m_high, Value.ref m_crack, Value.int (nI bc), Value.ref m_weight, Value.ref m_fire, Value.ref m_crowd, Value.ref m_state, Value.ref m_where, Value.int s_hours, Value.int s_fees, Value.int s_looks, Value.ref m_words, Value.int s_end, Value.int s_next, Value.int s_kind, Value.int s_which, Value.int s_place, Value.int s_read, Value.ref m_told, Value.ref m_breaks, Value.ref m_row, Value.ref m_tried, Value.ref m_steps, Value.ref m_paths])), (m_steps, Sum.inl (y_steps, 400, Sum.inl g)), (m_stair, Sum.inl (y_stair, 24, Sum.inl f_stair)), (m_low, Sum.inl (y_low, 100, Sum.inl f_low)), (m_crack, Sum.inl (y_crack, 100, Sum.inl f_crack))] → va_S A s.heap H locs → ∀ ls : Array Slot, lv_has ls 6 [(0, Value.ref h0), (1, Value.int (nI si)), (2, Value.int mo)] → W p l e ({ frames := 2, cells := 0, slots := 0, locals := 49 }) s m args below meth c H locs 0 0 Q (F0 m 178 ls [])) :
    ∀ n : Nat, ∀ (g : Nat → Int32) (mo : Int32) (j : Nat), (j ≤ h) → (si < 4) → (w ≤ 10) → (h ≤ 10) → (rOK 10000 g 400) → (wk g0 g mo) → (h - j) < n → ∀ (H : Heap) (locs : List Loc), va_P D vwCl [(h0, Sum.inr (9, [Value.ref m_tape, Value.int (nI ln), Value.int s_thrown, Value.ref m_rule, Value.ref m_rules, Value.int (nI sn), Value.ref m_stair, Value.int s_readStairs, Value.int s_fault, Value.int s_faultPlace, Value.int (nI w), Value.int (nI h), Value.ref m_low, Value.ref m_high, Value.ref m_crack, Value.int (nI bc), Value.ref m_weight, Value.ref m_fire, Value.ref m_crowd, Value.ref m_state, Value.ref m_where, Value.int s_hours, Value.int s_fees, Value.int s_looks, Value.ref m_words, Value.int s_end, Value.int s_next, Value.int s_kind, Value.int s_which, Value.int s_place, Value.int s_read, Value.ref m_told, Value.ref m_breaks, Value.ref m_row, Value.ref m_tried, Value.ref m_steps, Value.ref m_paths])), (m_steps, Sum.inl (y_steps, 400, Sum.inl g)), (m_stair, Sum.inl (y_stair, 24, Sum.inl f_stair)), (m_low, Sum.inl (y_low, 100, Sum.inl f_low)), (m_crack, Sum.inl (y_crack, 100, Sum.inl f_crack))] H → va_D A [(h0, Sum.inr (9, [Value.ref m_tape, Value.int (nI ln), Value.int s_thrown, Value.ref m_rule, Value.ref m_rules, Value.int (nI sn), Value.ref m_stair, Value.int s_readStairs, Value.int s_fault, Value.int s_faultPlace, Value.int (nI w), Value.int (nI h), Value.ref m_low, Value.ref m_high, Value.ref m_crack, Value.int (nI bc), Value.ref m_weight, Value.ref m_fire, Value.ref m_crowd, Value.ref m_state, Value.ref m_where, Value.int s_hours, Value.int s_fees, Value.int s_looks, Value.ref m_words, Value.int s_end, Value.int s_next, Value.int s_kind, Value.int s_which, Value.int s_place, Value.int s_read, Value.ref m_told, Value.ref m_breaks, Value.ref m_row, Value.ref m_tried, Value.ref m_steps, Value.ref m_paths])), (m_steps, Sum.inl (y_steps, 400, Sum.inl g)), (m_stair, Sum.inl (y_stair, 24, Sum.inl f_stair)), (m_low, Sum.inl (y_low, 100, Sum.inl f_low)), (m_crack, Sum.inl (y_crack, 100, Sum.inl f_crack))] → va_S A s.heap H locs → ∀ ls : Array Slot, lv_has ls 6 [(0, Value.ref h0), (1, Value.int (nI si)), (2, Value.int mo), (3, Value.int (nI j))] → W p l e ({ frames := 2, cells := 0, slots := 0, locals := 49 }) s m args below meth c H locs 0 0 Q (F0 m 74 ls []) := by
  intro n
  induction n with
  | zero => intro g mo j hj hsi h3 h4 hsp hwk hn; exact absurd hn (Nat.not_lt_zero _)
  | succ n ih =>
    intro g mo j hj hsi h3 h4 hsp hwk hn H locs hP hD hS ls hl
    obtain ⟨hx, hb, hml, hown, hts⟩ := id F
    refine lv_iload_n hx hb dX10_walks_74 rfl (lv_at hl 3 rfl) ?_
    refine lv_aload_n hx hb dX10_walks_75 rfl (lv_at hl 0 rfl) ?_
    refine va_get (D := D) (ci := 9) (v := Value.int (nI h)) (C := RX10) (T := TX10) (N := 37) hx hb hts inG_X10 hown hK hP 0 rfl rfl 11 (by decide) (hts _ kw_4_206) (fun _ h9 => h9) rfl dX10_walks_76 ?_
    refine lv_icmp_ge (tgt := 178) hx hb dX10_walks_79 (by decide) (fun c_1 => ?_) (fun c_1 => ?_)
    · skip
      have c_1n : h ≤ j := (nI_leI (by omega) (by omega)).mp c_1
      have c_1 := Int32.not_lt.mpr c_1
      exact kx_178 g mo hsp hwk H locs (hP.sub [0, 1, 2, 3, 4] rfl) (hD.sub [0, 1, 2, 3, 4] (by decide) rfl) hS ls (lv_sub hl [0, 1, 2] rfl)
    · skip
      have c_1n : j < h := nb_le (by omega) (by omega) c_1
      have c_1 := Int32.not_le.mp c_1
      refine lv_iconst (v := 0) hx hb dX10_walks_82 (by decide) ?_
      refine lv_istore (lv' := [(4, Value.int 0), (0, Value.ref h0), (1, Value.int (nI si)), (2, Value.int mo), (3, Value.int (nI j))]) hx hb dX10_walks_83 hl (by decide) rfl (fun ls hl => ?_)
      refine lp_n_walks_x F hA h0 m_tape ln s_thrown m_rule m_rules sn m_stair s_readStairs s_fault s_faultPlace w h m_low m_high m_crack bc m_weight m_fire m_crowd m_state m_where s_hours s_fees s_looks m_words s_end s_next s_kind s_which s_place s_read m_told m_breaks m_row m_tried m_steps m_paths y_steps y_stair f_stair y_low f_low y_crack f_crack si j g0 (hK.sub [0, 1, 2, 3] rfl) (fun g_2 mo_3 h_4 h_5 H locs hP hD hS ls hl => ?_) _ g mo 0 (by omega) (by omega) (by omega) (by omega) (by omega) hsp hwk (Nat.lt_succ_self _) _ _ (hP.sub [0, 1, 2, 3, 4] rfl) (hD.sub [0, 1, 2, 3, 4] (by decide) rfl) hS ls (lv_sub hl [1, 2, 3, 4, 0] rfl)
      have h_4 : rOK 10000 g_2 400 := h_4
      have h_5 : wk g0 g_2 mo_3 := h_5
      have hsp := h_4
      have hwk := h_5
      refine lv_iinc (v := nI (j + 1)) (lv' := [(3, Value.int (nI (j + 1))), (0, Value.ref h0), (1, Value.int (nI si)), (2, Value.int mo_3)]) hx hb dX10_walks_172 hl (k := 3) rfl (nI_add j 1) (by decide) rfl (fun ls hl => ?_)
      refine lv_goto (tgt := 74) hx hb dX10_walks_175 (by decide) ?_
      exact ih g_2 mo_3 (j + 1) (by omega) (by omega) (by omega) (by omega) hsp hwk (by omega) H locs (hP.sub [0, 1, 2, 3, 4] rfl) (hD.sub [0, 1, 2, 3, 4] (by decide) rfl) hS ls (lv_sub hl [1, 2, 3, 0] rfl)
set_option maxHeartbeats 4000000 in
set_option maxRecDepth 100000 in
theorem lp_n_walks_r {p : Program} {l : Launch} {e : Env} {s : State} {m : MethodId} {args : Array Value} {below : List Frame} {meth : Method} {c : Code} {Q : State → Prop} {A : Nat → Prop} {D : va_G} (F : mFix p s m args c cX10_walks 6 RX10) (hA : ∀ q, s.heap.size ≤ q → A q) (h0 : Nat) (m_tape : Nat) (ln : Nat) (s_thrown : Int32) (m_rule : Nat) (m_rules : Nat) (sn : Nat) (m_stair : Nat) (s_readStairs : Int32) (s_fault : Int32) (s_faultPlace : Int32) (w : Nat) (h : Nat) (m_low : Nat) (m_high : Nat) (m_crack : Nat) (bc : Nat) (m_weight : Nat) (m_fire : Nat) (m_crowd : Nat) (m_state : Nat) (m_where : Nat) (s_hours : Int32) (s_fees : Int32) (s_looks : Int32) (m_words : Nat) (s_end : Int32) (s_next : Int32) (s_kind : Int32) (s_which : Int32) (s_place : Int32) (s_read : Int32) (m_told : Nat) (m_breaks : Nat) (m_row : Nat) (m_tried : Nat) (m_steps : Nat) (m_paths : Nat) (y_steps : ClassId) (y_stair : ClassId) (f_stair : Nat → Int32) (y_low : ClassId) (f_low : Nat → Int32) (y_crack : ClassId) (f_crack : Nat → Int32) (si : Nat) (hK : va_K D vwCl [(y_steps, .int), (y_stair, .int), (y_low, .int), (y_crack, .boolean)] s)
    (kx_181 : ∀ (g : Nat → Int32), (rOK 10000 g 400) → ∀ (H : Heap) (locs : List Loc), va_P D vwCl [(h0, Sum.inr (9, [Value.ref m_tape, Value.int (nI ln), Value.int s_thrown, Value.ref m_rule, Value.ref m_rules, Value.int (nI sn), Value.ref m_stair, Value.int s_readStairs, Value.int s_fault, Value.int s_faultPlace, Value.int (nI w), Value.int (nI h), Value.ref m_low, Value.ref m_high, Value.ref m_crack, Value.int (nI bc), Value.ref m_weight, Value.ref m_fire, Value.ref m_crowd, Value.ref m_state, Value.ref m_where, Value.int s_hours, Value.int s_fees, Value.int s_looks, Value.ref m_words, Value.int s_end, Value.int s_next, Value.int s_kind, Value.int s_which, Value.int s_place, Value.int s_read, Value.ref m_told, Value.ref m_breaks, Value.ref m_row, Value.ref m_tried, Value.ref m_steps, Value.ref m_paths])), (m_steps, Sum.inl (y_steps, 400, Sum.inl g)), (m_stair, Sum.inl (y_stair, 24, Sum.inl f_stair)), (m_low, Sum.inl (y_low, 100, Sum.inl f_low)), (m_crack, Sum.inl (y_crack, 100, Sum.inl f_crack))] H → va_D A [(h0, Sum.inr (9, [Value.ref m_tape, Value.int (nI ln), Value.int s_thrown, Value.ref m_rule, Value.ref m_rules, Value.int (nI sn), Value.ref m_stair, Value.int s_readStairs, Value.int s_fault, Value.int s_faultPlace, Value.int (nI w), Value.int (nI h), Value.ref m_low, Value.ref m_high, Value.ref m_crack, Value.int (nI bc), Value.ref m_weight, Value.ref m_fire, Value.ref m_crowd, Value.ref m_state, Value.ref m_where, Value.int s_hours, Value.int s_fees, Value.int s_looks, Value.ref m_words, Value.int s_end, Value.int s_next, Value.int s_kind, Value.int s_which, Value.int s_place, Value.int s_read, Value.ref m_told, Value.ref m_breaks, Value.ref m_row, Value.ref m_tried, Value.ref m_steps, Value.ref m_paths])), (m_steps, Sum.inl (y_steps, 400, Sum.inl g)), (m_stair, Sum.inl (y_stair, 24, Sum.inl f_stair)), (m_low, Sum.inl (y_low, 100, Sum.inl f_low)), (m_crack, Sum.inl (y_crack, 100, Sum.inl f_crack))] → va_S A s.heap H locs → ∀ ls : Array Slot, lv_has ls 6 [(0, Value.ref h0), (1, Value.int (nI si))] → W p l e ({ frames := 2, cells := 0, slots := 0, locals := 49 }) s m args below meth c H locs 0 0 Q (F0 m 181 ls [])) :
    ∀ n : Nat, ∀ (g : Nat → Int32) (mo : Int32), (si < 4) → (w ≤ 10) → (h ≤ 10) → (rOK 10000 g 400) → (2 * sm g 400 + moN mo) < n → ∀ (H : Heap) (locs : List Loc), va_P D vwCl [(h0, Sum.inr (9, [Value.ref m_tape, Value.int (nI ln), Value.int s_thrown, Value.ref m_rule, Value.ref m_rules, Value.int (nI sn), Value.ref m_stair, Value.int s_readStairs, Value.int s_fault, Value.int s_faultPlace, Value.int (nI w), Value.int (nI h), Value.ref m_low, Value.ref m_high, Value.ref m_crack, Value.int (nI bc), Value.ref m_weight, Value.ref m_fire, Value.ref m_crowd, Value.ref m_state, Value.ref m_where, Value.int s_hours, Value.int s_fees, Value.int s_looks, Value.ref m_words, Value.int s_end, Value.int s_next, Value.int s_kind, Value.int s_which, Value.int s_place, Value.int s_read, Value.ref m_told, Value.ref m_breaks, Value.ref m_row, Value.ref m_tried, Value.ref m_steps, Value.ref m_paths])), (m_steps, Sum.inl (y_steps, 400, Sum.inl g)), (m_stair, Sum.inl (y_stair, 24, Sum.inl f_stair)), (m_low, Sum.inl (y_low, 100, Sum.inl f_low)), (m_crack, Sum.inl (y_crack, 100, Sum.inl f_crack))] H → va_D A [(h0, Sum.inr (9, [Value.ref m_tape, Value.int (nI ln), Value.int s_thrown, Value.ref m_rule, Value.ref m_rules, Value.int (nI sn), Value.ref m_stair, Value.int s_readStairs, Value.int s_fault, Value.int s_faultPlace, Value.int (nI w), Value.int (nI h), Value.ref m_low, Value.ref m_high, Value.ref m_crack, Value.int (nI bc), Value.ref m_weight, Value.ref m_fire, Value.ref m_crowd, Value.ref m_state, Value.ref m_where, Value.int s_hours, Value.int s_fees, Value.int s_looks, Value.ref m_words, Value.int s_end, Value.int s_next, Value.int s_kind, Value.int s_which, Value.int s_place, Value.int s_read, Value.ref m_told, Value.ref m_breaks, Value.ref m_row, Value.ref m_tried, Value.ref m_steps, Value.ref m_paths])), (m_steps, Sum.inl (y_steps, 400, Sum.inl g)), (m_stair, Sum.inl (y_stair, 24, Sum.inl f_stair)), (m_low, Sum.inl (y_low, 100, Sum.inl f_low)), (m_crack, Sum.inl (y_crack, 100, Sum.inl f_crack))] → va_S A s.heap H locs → ∀ ls : Array Slot, lv_has ls 6 [(0, Value.ref h0), (1, Value.int (nI si)), (2, Value.int mo)] → W p l e ({ frames := 2, cells := 0, slots := 0, locals := 49 }) s m args below meth c H locs 0 0 Q (F0 m 66 ls []) := by
  intro n
  induction n with
  | zero => intro g mo hsi h3 h4 hsp hn; exact absurd hn (Nat.not_lt_zero _)
  | succ n ih =>
    intro g mo hsi h3 h4 hsp hn H locs hP hD hS ls hl
    obtain ⟨hx, hb, hml, hown, hts⟩ := id F
    refine lv_iload_n hx hb dX10_walks_66 rfl (lv_at hl 2 rfl) ?_
    refine lv_if_eq (tgt := 181) hx hb dX10_walks_67 (by decide) (fun c_1 => ?_) (fun c_1 => ?_)
    · skip
      exact kx_181 g hsp H locs (hP.sub [0, 1, 2, 3, 4] rfl) (hD.sub [0, 1, 2, 3, 4] (by decide) rfl) hS ls (lv_sub hl [0, 1] rfl)
    · skip
      refine lv_iconst (v := 0) hx hb dX10_walks_70 (by decide) ?_
      refine lv_istore_n (lv' := [(2, Value.int 0), (0, Value.ref h0), (1, Value.int (nI si))]) hx hb dX10_walks_71 rfl hl (by decide) rfl (fun ls hl => ?_)
      refine lv_iconst (v := 0) hx hb dX10_walks_72 (by decide) ?_
      refine lv_istore_n (lv' := [(3, Value.int 0), (2, Value.int 0), (0, Value.ref h0), (1, Value.int (nI si))]) hx hb dX10_walks_73 rfl hl (by decide) rfl (fun ls hl => ?_)
      refine lp_n_walks_y F hA h0 m_tape ln s_thrown m_rule m_rules sn m_stair s_readStairs s_fault s_faultPlace w h m_low m_high m_crack bc m_weight m_fire m_crowd m_state m_where s_hours s_fees s_looks m_words s_end s_next s_kind s_which s_place s_read m_told m_breaks m_row m_tried m_steps m_paths y_steps y_stair f_stair y_low f_low y_crack f_crack si g (hK.sub [0, 1, 2, 3] rfl) (fun g_2 mo_3 h_4 h_5 H locs hP hD hS ls hl => ?_) _ g 0 0 (by omega) (by omega) (by omega) (by omega) hsp wk_0 (Nat.lt_succ_self _) _ _ (hP.sub [0, 1, 2, 3, 4] rfl) (hD.sub [0, 1, 2, 3, 4] (by decide) rfl) hS ls (lv_sub hl [2, 3, 1, 0] rfl)
      have h_4 : rOK 10000 g_2 400 := h_4
      have h_5 : wk g g_2 mo_3 := h_5
      have hsp := h_4
      have hwk := h_5
      refine lv_goto (tgt := 66) hx hb dX10_walks_178 (by decide) ?_
      exact ih g_2 mo_3 (by omega) (by omega) (by omega) hsp (wk_dec c_1 hwk hn) H locs (hP.sub [0, 1, 2, 3, 4] rfl) (hD.sub [0, 1, 2, 3, 4] (by decide) rfl) hS ls (lv_sub hl [0, 1, 2] rfl)
set_option maxHeartbeats 4000000 in
set_option maxRecDepth 100000 in
theorem lp_n_walks_s {p : Program} {l : Launch} {e : Env} {s : State} {m : MethodId} {args : Array Value} {below : List Frame} {meth : Method} {c : Code} {Q : State → Prop} {A : Nat → Prop} {D : va_G} (F : mFix p s m args c cX10_walks 6 RX10) (hA : ∀ q, s.heap.size ≤ q → A q) (h0 : Nat) (m_tape : Nat) (ln : Nat) (s_thrown : Int32) (m_rule : Nat) (m_rules : Nat) (sn : Nat) (m_stair : Nat) (s_readStairs : Int32) (s_fault : Int32) (s_faultPlace : Int32) (w : Nat) (h : Nat) (m_low : Nat) (m_high : Nat) (m_crack : Nat) (bc : Nat) (m_weight : Nat) (m_fire : Nat) (m_crowd : Nat) (m_state : Nat) (m_where : Nat) (s_hours : Int32) (s_fees : Int32) (s_looks : Int32) (m_words : Nat) (s_end : Int32) (s_next : Int32) (s_kind : Int32) (s_which : Int32) (s_place : Int32) (s_read : Int32) (m_told : Nat) (m_breaks : Nat) (m_row : Nat) (m_tried : Nat) (m_steps : Nat) (m_paths : Nat) (y_steps : ClassId) (y_stair : ClassId) (f_stair : Nat → Int32) (y_low : ClassId) (f_low : Nat → Int32) (y_crack : ClassId) (f_crack : Nat → Int32) (hK : va_K D vwCl [(y_steps, .int), (y_stair, .int), (y_low, .int), (y_crack, .boolean)] s)
    (kx_187 : ∀ (g : Nat → Int32), (rOK 10000 g 400) → ∀ (H : Heap) (locs : List Loc), va_P D vwCl [(h0, Sum.inr (9, [Value.ref m_tape, Value.int (nI ln), Value.int s_thrown, Value.ref m_rule, Value.ref m_rules, Value.int (nI sn), Value.ref m_stair, Value.int s_readStairs, Value.int s_fault, Value.int s_faultPlace, Value.int (nI w), Value.int (nI h), Value.ref m_low, Value.ref m_high, Value.ref m_crack, Value.int (nI bc), Value.ref m_weight, Value.ref m_fire, Value.ref m_crowd, Value.ref m_state, Value.ref m_where, Value.int s_hours, Value.int s_fees, Value.int s_looks, Value.ref m_words, Value.int s_end, Value.int s_next, Value.int s_kind, Value.int s_which, Value.int s_place, Value.int s_read, Value.ref m_told, Value.ref m_breaks, Value.ref m_row, Value.ref m_tried, Value.ref m_steps, Value.ref m_paths])), (m_steps, Sum.inl (y_steps, 400, Sum.inl g)), (m_stair, Sum.inl (y_stair, 24, Sum.inl f_stair)), (m_low, Sum.inl (y_low, 100, Sum.inl f_low)), (m_crack, Sum.inl (y_crack, 100, Sum.inl f_crack))] H → va_D A [(h0, Sum.inr (9, [Value.ref m_tape, Value.int (nI ln), Value.int s_thrown, Value.ref m_rule, Value.ref m_rules, Value.int (nI sn), Value.ref m_stair, Value.int s_readStairs, Value.int s_fault, Value.int s_faultPlace, Value.int (nI w), Value.int (nI h), Value.ref m_low, Value.ref m_high, Value.ref m_crack, Value.int (nI bc), Value.ref m_weight, Value.ref m_fire, Value.ref m_crowd, Value.ref m_state, Value.ref m_where, Value.int s_hours, Value.int s_fees, Value.int s_looks, Value.ref m_words, Value.int s_end, Value.int s_next, Value.int s_kind, Value.int s_which, Value.int s_place, Value.int s_read, Value.ref m_told, Value.ref m_breaks, Value.ref m_row, Value.ref m_tried, Value.ref m_steps, Value.ref m_paths])), (m_steps, Sum.inl (y_steps, 400, Sum.inl g)), (m_stair, Sum.inl (y_stair, 24, Sum.inl f_stair)), (m_low, Sum.inl (y_low, 100, Sum.inl f_low)), (m_crack, Sum.inl (y_crack, 100, Sum.inl f_crack))] → va_S A s.heap H locs → ∀ ls : Array Slot, lv_has ls 6 [] → W p l e ({ frames := 2, cells := 0, slots := 0, locals := 49 }) s m args below meth c H locs 0 0 Q (F0 m 187 ls [])) :
    ∀ n : Nat, ∀ (g : Nat → Int32) (si : Nat), (si ≤ sn) → (sn ≤ 4) → (w ≤ 10) → (h ≤ 10) → (rOK 100 f_stair 24) → (rOK 10000 g 400) → (sn - si) < n → ∀ (H : Heap) (locs : List Loc), va_P D vwCl [(h0, Sum.inr (9, [Value.ref m_tape, Value.int (nI ln), Value.int s_thrown, Value.ref m_rule, Value.ref m_rules, Value.int (nI sn), Value.ref m_stair, Value.int s_readStairs, Value.int s_fault, Value.int s_faultPlace, Value.int (nI w), Value.int (nI h), Value.ref m_low, Value.ref m_high, Value.ref m_crack, Value.int (nI bc), Value.ref m_weight, Value.ref m_fire, Value.ref m_crowd, Value.ref m_state, Value.ref m_where, Value.int s_hours, Value.int s_fees, Value.int s_looks, Value.ref m_words, Value.int s_end, Value.int s_next, Value.int s_kind, Value.int s_which, Value.int s_place, Value.int s_read, Value.ref m_told, Value.ref m_breaks, Value.ref m_row, Value.ref m_tried, Value.ref m_steps, Value.ref m_paths])), (m_steps, Sum.inl (y_steps, 400, Sum.inl g)), (m_stair, Sum.inl (y_stair, 24, Sum.inl f_stair)), (m_low, Sum.inl (y_low, 100, Sum.inl f_low)), (m_crack, Sum.inl (y_crack, 100, Sum.inl f_crack))] H → va_D A [(h0, Sum.inr (9, [Value.ref m_tape, Value.int (nI ln), Value.int s_thrown, Value.ref m_rule, Value.ref m_rules, Value.int (nI sn), Value.ref m_stair, Value.int s_readStairs, Value.int s_fault, Value.int s_faultPlace, Value.int (nI w), Value.int (nI h), Value.ref m_low, Value.ref m_high, Value.ref m_crack, Value.int (nI bc), Value.ref m_weight, Value.ref m_fire, Value.ref m_crowd, Value.ref m_state, Value.ref m_where, Value.int s_hours, Value.int s_fees, Value.int s_looks, Value.ref m_words, Value.int s_end, Value.int s_next, Value.int s_kind, Value.int s_which, Value.int s_place, Value.int s_read, Value.ref m_told, Value.ref m_breaks, Value.ref m_row, Value.ref m_tried, Value.ref m_steps, Value.ref m_paths])), (m_steps, Sum.inl (y_steps, 400, Sum.inl g)), (m_stair, Sum.inl (y_stair, 24, Sum.inl f_stair)), (m_low, Sum.inl (y_low, 100, Sum.inl f_low)), (m_crack, Sum.inl (y_crack, 100, Sum.inl f_crack))] → va_S A s.heap H locs → ∀ ls : Array Slot, lv_has ls 6 [(0, Value.ref h0), (1, Value.int (nI si))] → W p l e ({ frames := 2, cells := 0, slots := 0, locals := 49 }) s m args below meth c H locs 0 0 Q (F0 m 26 ls []) := by
  intro n
  induction n with
  | zero => intro g si hss hsn h3 h4 hst hsp hn; exact absurd hn (Nat.not_lt_zero _)
  | succ n ih =>
    intro g si hss hsn h3 h4 hst hsp hn H locs hP hD hS ls hl
    obtain ⟨hx, hb, hml, hown, hts⟩ := id F
    refine lv_iload_n hx hb dX10_walks_26 rfl (lv_at hl 1 rfl) ?_
    refine lv_aload_n hx hb dX10_walks_27 rfl (lv_at hl 0 rfl) ?_
    refine va_get (D := D) (ci := 9) (v := Value.int (nI sn)) (C := RX10) (T := TX10) (N := 37) hx hb hts inG_X10 hown hK hP 0 rfl rfl 5 (by decide) (hts _ kw_4_200) (fun _ h9 => h9) rfl dX10_walks_28 ?_
    refine lv_icmp_ge (tgt := 187) hx hb dX10_walks_31 (by decide) (fun c_1 => ?_) (fun c_1 => ?_)
    · skip
      have c_1n : sn ≤ si := (nI_leI (by omega) (by omega)).mp c_1
      have c_1 := Int32.not_lt.mpr c_1
      exact kx_187 g hsp H locs (hP.sub [0, 1, 2, 3, 4] rfl) (hD.sub [0, 1, 2, 3, 4] (by decide) rfl) hS ls (lv_sub hl [] rfl)
    · skip
      have c_1n : si < sn := nb_le (by omega) (by omega) c_1
      have c_1 := Int32.not_le.mp c_1
      refine lv_aload_n hx hb dX10_walks_34 rfl (lv_at hl 0 rfl) ?_
      refine lv_iload_n hx hb dX10_walks_35 rfl (lv_at hl 1 rfl) ?_
      refine mc_Vi (rest := []) (wr := [(m_steps, Sum.inl (y_steps, 400, Sum.inl g))]) F hK hP hD hS hA (n_isStair l D h0 m_tape ln s_thrown m_rule m_rules sn m_stair s_readStairs s_fault s_faultPlace w h m_low m_high m_crack bc m_weight m_fire m_crowd m_state m_where s_hours s_fees s_looks m_words s_end s_next s_kind s_which s_place s_read m_told m_breaks m_row m_tried m_steps m_paths y_stair f_stair y_low f_low y_crack f_crack si (by omega) hst (by omega) (by omega)) ⟨gk_X10_195.1, gk_X10_195.2, Nat.le_of_ble_eq_true rfl, Nat.le_of_ble_eq_true rfl⟩ [0, 2, 3, 4] [1] [1, 2, 3] ⟨rfl, rfl, rfl, rfl, by decide⟩ rfl xT_move (fun _ _ _ => trivial) 0 rfl rfl rfl hl.1 rfl (Nat.le_of_ble_eq_true rfl) dX10_walks_36 ⟨Nat.le_of_ble_eq_true rfl, Nat.le_of_ble_eq_true rfl⟩ (fun r_2 _ H locs hw hK1 hP hD hS => ?_)
      have hP : va_P D vwCl [(m_steps, Sum.inl (y_steps, 400, Sum.inl g)), (h0, Sum.inr (9, [Value.ref m_tape, Value.int (nI ln), Value.int s_thrown, Value.ref m_rule, Value.ref m_rules, Value.int (nI sn), Value.ref m_stair, Value.int s_readStairs, Value.int s_fault, Value.int s_faultPlace, Value.int (nI w), Value.int (nI h), Value.ref m_low, Value.ref m_high, Value.ref m_crack, Value.int (nI bc), Value.ref m_weight, Value.ref m_fire, Value.ref m_crowd, Value.ref m_state, Value.ref m_where, Value.int s_hours, Value.int s_fees, Value.int s_looks, Value.ref m_words, Value.int s_end, Value.int s_next, Value.int s_kind, Value.int s_which, Value.int s_place, Value.int s_read, Value.ref m_told, Value.ref m_breaks, Value.ref m_row, Value.ref m_tried, Value.ref m_steps, Value.ref m_paths])), (m_stair, Sum.inl (y_stair, 24, Sum.inl f_stair)), (m_low, Sum.inl (y_low, 100, Sum.inl f_low)), (m_crack, Sum.inl (y_crack, 100, Sum.inl f_crack))] H := hP
      have hD : va_D A [(m_steps, Sum.inl (y_steps, 400, Sum.inl g)), (h0, Sum.inr (9, [Value.ref m_tape, Value.int (nI ln), Value.int s_thrown, Value.ref m_rule, Value.ref m_rules, Value.int (nI sn), Value.ref m_stair, Value.int s_readStairs, Value.int s_fault, Value.int s_faultPlace, Value.int (nI w), Value.int (nI h), Value.ref m_low, Value.ref m_high, Value.ref m_crack, Value.int (nI bc), Value.ref m_weight, Value.ref m_fire, Value.ref m_crowd, Value.ref m_state, Value.ref m_where, Value.int s_hours, Value.int s_fees, Value.int s_looks, Value.ref m_words, Value.int s_end, Value.int s_next, Value.int s_kind, Value.int s_which, Value.int s_place, Value.int s_read, Value.ref m_told, Value.ref m_breaks, Value.ref m_row, Value.ref m_tried, Value.ref m_steps, Value.ref m_paths])), (m_stair, Sum.inl (y_stair, 24, Sum.inl f_stair)), (m_low, Sum.inl (y_low, 100, Sum.inl f_low)), (m_crack, Sum.inl (y_crack, 100, Sum.inl f_crack))] := hD
      have hw_3 : r_2 = 0 ∨ r_2 = 1 := hw
      refine lv_if_ne (tgt := 45) hx hb dX10_walks_39 (by decide) (fun c_4 => ?_) (fun c_4 => ?_)
      · skip
        refine lv_aload_n hx hb dX10_walks_45 rfl (lv_at hl 0 rfl) ?_
        refine va_get (D := D) (ci := 9) (v := Value.ref m_steps) (C := RX10) (T := TX10) (N := 37) hx hb hts inG_X10 hown hK hP 1 rfl rfl 35 (by decide) (hts _ kw_4_230) (fun _ h9 => h9) rfl dX10_walks_46 ?_
        refine lv_bipush (v := 100) hx hb dX10_walks_49 (by decide) ?_
        refine lv_iload_n hx hb dX10_walks_51 rfl (lv_at hl 1 rfl) ?_
        refine lv_imul hx hb dX10_walks_52 ?_
        refine lv_topi (fun z_5 ez_5 => ?_)
        obtain rfl : z_5 = nI (100 * si) := ez_5.trans (pk_mul 100 si)
        refine lv_aload_n hx hb dX10_walks_53 rfl (lv_at hl 0 rfl) ?_
        refine va_get (D := D) (ci := 9) (v := Value.ref m_stair) (C := RX10) (T := TX10) (N := 37) hx hb hts inG_X10 hown hK hP 1 rfl rfl 6 (by decide) (hts _ kw_4_201) (fun _ h9 => h9) rfl dX10_walks_54 ?_
        refine lv_iconst (v := 2) hx hb dX10_walks_57 (by decide) ?_
        refine lv_iload_n hx hb dX10_walks_58 rfl (lv_at hl 1 rfl) ?_
        refine lv_imul hx hb dX10_walks_59 ?_
        refine lv_topi (fun z_6 ez_6 => ?_)
        obtain rfl : z_6 = nI (2 * si) := ez_6.trans (pk_mul 2 si)
        refine m_iald hx hb hK hP 2 1 rfl rfl (2 * si) rfl (by omega) (by decide) dX10_walks_60 ?_
        refine lv_topi (fun v_7 ev_7 => ?_)
        obtain ⟨q_8, hq_8, Eq_8⟩ := hst (2 * si) (by omega)
        obtain rfl : v_7 = nI q_8 := ev_7.trans Eq_8
        refine lv_iadd hx hb dX10_walks_61 ?_
        refine lv_topi (fun z_9 ez_9 => ?_)
        obtain rfl : z_9 = nI (100 * si + q_8) := ez_9.trans (nI_add (100 * si) q_8)
        refine lv_iconst (v := 0) hx hb dX10_walks_62 (by decide) ?_
        refine m_iast hx hb hK hP hD hS 0 0 rfl rfl (100 * si + q_8) rfl (by omega) (by decide) dX10_walks_63 (fun g_10 H locs eg_10 hP hD hS => ?_)
        have hP : va_P D vwCl [(m_steps, Sum.inl (y_steps, 400, Sum.inl g_10)), (h0, Sum.inr (9, [Value.ref m_tape, Value.int (nI ln), Value.int s_thrown, Value.ref m_rule, Value.ref m_rules, Value.int (nI sn), Value.ref m_stair, Value.int s_readStairs, Value.int s_fault, Value.int s_faultPlace, Value.int (nI w), Value.int (nI h), Value.ref m_low, Value.ref m_high, Value.ref m_crack, Value.int (nI bc), Value.ref m_weight, Value.ref m_fire, Value.ref m_crowd, Value.ref m_state, Value.ref m_where, Value.int s_hours, Value.int s_fees, Value.int s_looks, Value.ref m_words, Value.int s_end, Value.int s_next, Value.int s_kind, Value.int s_which, Value.int s_place, Value.int s_read, Value.ref m_told, Value.ref m_breaks, Value.ref m_row, Value.ref m_tried, Value.ref m_steps, Value.ref m_paths])), (m_stair, Sum.inl (y_stair, 24, Sum.inl f_stair)), (m_low, Sum.inl (y_low, 100, Sum.inl f_low)), (m_crack, Sum.inl (y_crack, 100, Sum.inl f_crack))] H := hP
        have hD : va_D A [(m_steps, Sum.inl (y_steps, 400, Sum.inl g_10)), (h0, Sum.inr (9, [Value.ref m_tape, Value.int (nI ln), Value.int s_thrown, Value.ref m_rule, Value.ref m_rules, Value.int (nI sn), Value.ref m_stair, Value.int s_readStairs, Value.int s_fault, Value.int s_faultPlace, Value.int (nI w), Value.int (nI h), Value.ref m_low, Value.ref m_high, Value.ref m_crack, Value.int (nI bc), Value.ref m_weight, Value.ref m_fire, Value.ref m_crowd, Value.ref m_state, Value.ref m_where, Value.int s_hours, Value.int s_fees, Value.int s_looks, Value.ref m_words, Value.int s_end, Value.int s_next, Value.int s_kind, Value.int s_which, Value.int s_place, Value.int s_read, Value.ref m_told, Value.ref m_breaks, Value.ref m_row, Value.ref m_tried, Value.ref m_steps, Value.ref m_paths])), (m_stair, Sum.inl (y_stair, 24, Sum.inl f_stair)), (m_low, Sum.inl (y_low, 100, Sum.inl f_low)), (m_crack, Sum.inl (y_crack, 100, Sum.inl f_crack))] := hD
        refine lv_iconst (v := 1) hx hb dX10_walks_64 (by decide) ?_
        refine lv_istore_n (lv' := [(2, Value.int 1), (0, Value.ref h0), (1, Value.int (nI si))]) hx hb dX10_walks_65 rfl hl (by decide) rfl (fun ls hl => ?_)
        refine lp_n_walks_r F hA h0 m_tape ln s_thrown m_rule m_rules sn m_stair s_readStairs s_fault s_faultPlace w h m_low m_high m_crack bc m_weight m_fire m_crowd m_state m_where s_hours s_fees s_looks m_words s_end s_next s_kind s_which s_place s_read m_told m_breaks m_row m_tried m_steps m_paths y_steps y_stair f_stair y_low f_low y_crack f_crack si (hK.sub [0, 1, 2, 3] rfl) (fun g_11 h_12 H locs hP hD hS ls hl => ?_) _ g_10 1 (by omega) (by omega) (by omega) (rOK_upd (q := 0) hsp eg_10 (by decide)) (Nat.lt_succ_self _) _ _ (hP.sub [1, 0, 2, 3, 4] rfl) (hD.sub [1, 0, 2, 3, 4] (by decide) rfl) hS ls (lv_sub hl [1, 2, 0] rfl)
        have h_12 : rOK 10000 g_11 400 := h_12
        have hsp := h_12
        refine lv_iinc (v := nI (si + 1)) (lv' := [(1, Value.int (nI (si + 1))), (0, Value.ref h0)]) hx hb dX10_walks_181 hl (k := 1) rfl (nI_add si 1) (by decide) rfl (fun ls hl => ?_)
        refine lv_goto (tgt := 26) hx hb dX10_walks_184 (by decide) ?_
        exact ih g_11 (si + 1) (by omega) (by omega) (by omega) (by omega) hst hsp (by omega) H locs (hP.sub [0, 1, 2, 3, 4] rfl) (hD.sub [0, 1, 2, 3, 4] (by decide) rfl) hS ls (lv_sub hl [1, 0] rfl)
      · skip
        refine lv_goto (tgt := 181) hx hb dX10_walks_42 (by decide) ?_
        refine lv_iinc (v := nI (si + 1)) (lv' := [(1, Value.int (nI (si + 1))), (0, Value.ref h0)]) hx hb dX10_walks_181 hl (k := 1) rfl (nI_add si 1) (by decide) rfl (fun ls hl => ?_)
        refine lv_goto (tgt := 26) hx hb dX10_walks_184 (by decide) ?_
        exact ih g (si + 1) (by omega) (by omega) (by omega) (by omega) hst hsp (by omega) H locs (hP.sub [1, 0, 2, 3, 4] rfl) (hD.sub [1, 0, 2, 3, 4] (by decide) rfl) hS ls (lv_sub hl [1, 0] rfl)
set_option maxHeartbeats 4000000 in
set_option maxRecDepth 100000 in
theorem n_walks (l : Launch) (D : va_G) (h0 : Nat) (m_tape : Nat) (ln : Nat) (s_thrown : Int32) (m_rule : Nat) (m_rules : Nat) (sn : Nat) (m_stair : Nat) (s_readStairs : Int32) (s_fault : Int32) (s_faultPlace : Int32) (w : Nat) (h : Nat) (m_low : Nat) (m_high : Nat) (m_crack : Nat) (bc : Nat) (m_weight : Nat) (m_fire : Nat) (m_crowd : Nat) (m_state : Nat) (m_where : Nat) (s_hours : Int32) (s_fees : Int32) (s_looks : Int32) (m_words : Nat) (s_end : Int32) (s_next : Int32) (s_kind : Int32) (s_which : Int32) (s_place : Int32) (s_read : Int32) (m_told : Nat) (m_breaks : Nat) (m_row : Nat) (m_tried : Nat) (m_steps : Nat) (m_paths : Nat) (y_steps : ClassId) (f_steps : Nat → Int32) (y_stair : ClassId) (f_stair : Nat → Int32) (y_low : ClassId) (f_low : Nat → Int32) (y_crack : ClassId) (f_crack : Nat → Int32) (hsn : sn ≤ 4) (hst : rOK 100 f_stair 24) (h3 : w ≤ 10) (h4 : h ≤ 10) : cV l yX10_walks (.code yX10_walks cX10_walks 6 none) ({ frames := 2, cells := 0, slots := 0, locals := 49 }) D [(y_steps, .int), (y_stair, .int), (y_low, .int), (y_crack, .boolean)] [(h0, Sum.inr (9, [Value.ref m_tape, Value.int (nI ln), Value.int s_thrown, Value.ref m_rule, Value.ref m_rules, Value.int (nI sn), Value.ref m_stair, Value.int s_readStairs, Value.int s_fault, Value.int s_faultPlace, Value.int (nI w), Value.int (nI h), Value.ref m_low, Value.ref m_high, Value.ref m_crack, Value.int (nI bc), Value.ref m_weight, Value.ref m_fire, Value.ref m_crowd, Value.ref m_state, Value.ref m_where, Value.int s_hours, Value.int s_fees, Value.int s_looks, Value.ref m_words, Value.int s_end, Value.int s_next, Value.int s_kind, Value.int s_which, Value.int s_place, Value.int s_read, Value.ref m_told, Value.ref m_breaks, Value.ref m_row, Value.ref m_tried, Value.ref m_steps, Value.ref m_paths])), (m_steps, Sum.inl (y_steps, 400, Sum.inl f_steps)), (m_stair, Sum.inl (y_stair, 24, Sum.inl f_stair)), (m_low, Sum.inl (y_low, 100, Sum.inl f_low)), (m_crack, Sum.inl (y_crack, 100, Sum.inl f_crack))] xT [Value.ref h0] (S := (Nat → Int32)) (fun u => match u with | g_steps => rOK 10000 g_steps 400) (fun u => match u with | g_steps => []) (fun u => match u with | g_steps => [(h0, Sum.inr (9, [Value.ref m_tape, Value.int (nI ln), Value.int s_thrown, Value.ref m_rule, Value.ref m_rules, Value.int (nI sn), Value.ref m_stair, Value.int s_readStairs, Value.int s_fault, Value.int s_faultPlace, Value.int (nI w), Value.int (nI h), Value.ref m_low, Value.ref m_high, Value.ref m_crack, Value.int (nI bc), Value.ref m_weight, Value.ref m_fire, Value.ref m_crowd, Value.ref m_state, Value.ref m_where, Value.int s_hours, Value.int s_fees, Value.int s_looks, Value.ref m_words, Value.int s_end, Value.int s_next, Value.int s_kind, Value.int s_which, Value.int s_place, Value.int s_read, Value.ref m_told, Value.ref m_breaks, Value.ref m_row, Value.ref m_tried, Value.ref m_steps, Value.ref m_paths])), (m_steps, Sum.inl (y_steps, 400, Sum.inl g_steps)), (m_stair, Sum.inl (y_stair, 24, Sum.inl f_stair)), (m_low, Sum.inl (y_low, 100, Sum.inl f_low)), (m_crack, Sum.inl (y_crack, 100, Sum.inl f_crack))]) := by
  intro sz
  refine Met.ofW (cc := cX10_walks) (maxL := 6) (ret := none) (by decide) rfl ?_
  intro p e s m args below meth c s₁ B hml hv
  obtain ⟨rfl, hsz, hP, hK, hD0, hX⟩ := hv
  have hx := B.exec
  have hb := B.bytes
  have hr := B.returns
  have hts0 := atoms_spec (ws := .code yX10_walks cX10_walks 6 none :: gw) B.pre
  have hts := fun (w : Cond) (h : w ∈ gw) => hts0 w (List.mem_cons_of_mem _ h)
  have hown : s.vm.findClass RX10 = some m.cls := findClass_of_methodNamed B.named
  have hlocks := B.notSynchronized
  have F : mFix p s m _ c cX10_walks 6 RX10 := ⟨hx, hb, hml, hown, hts⟩
  subst hsz
  have hD := hD0.self (sz := s.heap.size)
  generalize hAe : va_A [(h0, Sum.inr (9, [Value.ref m_tape, Value.int (nI ln), Value.int s_thrown, Value.ref m_rule, Value.ref m_rules, Value.int (nI sn), Value.ref m_stair, Value.int s_readStairs, Value.int s_fault, Value.int s_faultPlace, Value.int (nI w), Value.int (nI h), Value.ref m_low, Value.ref m_high, Value.ref m_crack, Value.int (nI bc), Value.ref m_weight, Value.ref m_fire, Value.ref m_crowd, Value.ref m_state, Value.ref m_where, Value.int s_hours, Value.int s_fees, Value.int s_looks, Value.ref m_words, Value.int s_end, Value.int s_next, Value.int s_kind, Value.int s_which, Value.int s_place, Value.int s_read, Value.ref m_told, Value.ref m_breaks, Value.ref m_row, Value.ref m_tried, Value.ref m_steps, Value.ref m_paths])), (m_steps, Sum.inl (y_steps, 400, Sum.inl f_steps)), (m_stair, Sum.inl (y_stair, 24, Sum.inl f_stair)), (m_low, Sum.inl (y_low, 100, Sum.inl f_low)), (m_crack, Sum.inl (y_crack, 100, Sum.inl f_crack))] s.heap.size = A at hD hX ⊢
  have hA : ∀ q : Nat, s.heap.size ≤ q → A q := fun q h => by rw [← hAe]; exact Or.inr h
  have hS : va_S A s.heap s.heap [] := va_S.rf
  have hl := lv_entry ([Value.ref h0]) (n := 6) (Nat.le_of_ble_eq_true rfl)
  rw [lg_entry_eq]
  generalize (lg_sl ([Value.ref h0]) ++ List.replicate (6 - (lg_sl ([Value.ref h0])).length) Slot.unset).toArray = ls at hl ⊢
  have hl : lv_has ls 6 [(0, Value.ref h0)] := hl
  have hP : va_P D vwCl [(h0, Sum.inr (9, [Value.ref m_tape, Value.int (nI ln), Value.int s_thrown, Value.ref m_rule, Value.ref m_rules, Value.int (nI sn), Value.ref m_stair, Value.int s_readStairs, Value.int s_fault, Value.int s_faultPlace, Value.int (nI w), Value.int (nI h), Value.ref m_low, Value.ref m_high, Value.ref m_crack, Value.int (nI bc), Value.ref m_weight, Value.ref m_fire, Value.ref m_crowd, Value.ref m_state, Value.ref m_where, Value.int s_hours, Value.int s_fees, Value.int s_looks, Value.ref m_words, Value.int s_end, Value.int s_next, Value.int s_kind, Value.int s_which, Value.int s_place, Value.int s_read, Value.ref m_told, Value.ref m_breaks, Value.ref m_row, Value.ref m_tried, Value.ref m_steps, Value.ref m_paths])), (m_steps, Sum.inl (y_steps, 400, Sum.inl f_steps)), (m_stair, Sum.inl (y_stair, 24, Sum.inl f_stair)), (m_low, Sum.inl (y_low, 100, Sum.inl f_low)), (m_crack, Sum.inl (y_crack, 100, Sum.inl f_crack))] s.heap := hP
  refine lv_iconst (v := 0) hx hb dX10_walks_0 (by decide) ?_
  refine lv_istore_n (lv' := [(1, Value.int 0), (0, Value.ref h0)]) hx hb dX10_walks_1 rfl hl (by decide) rfl (fun ls hl => ?_)
  refine lp_n_walks1 F hA h0 m_tape ln s_thrown m_rule m_rules sn m_stair s_readStairs s_fault s_faultPlace w h m_low m_high m_crack bc m_weight m_fire m_crowd m_state m_where s_hours s_fees s_looks m_words s_end s_next s_kind s_which s_place s_read m_told m_breaks m_row m_tried m_steps m_paths y_steps y_stair f_stair y_low f_low y_crack f_crack (hK.sub [0, 1, 2, 3] rfl) (fun g_1 h_2 H locs hP hD hS ls hl => ?_) _ f_steps 0 (by omega) rOK_0 (Nat.lt_succ_self _) _ _ (hP.sub [0, 1, 2, 3, 4] rfl) (hD.sub [0, 1, 2, 3, 4] (by decide) rfl) hS ls (lv_sub hl [1, 0] rfl)
  have h_2 : rOK 10000 g_1 400 := h_2
  have hsp := h_2
  refine lv_iconst (v := 0) hx hb dX10_walks_24 (by decide) ?_
  refine lv_istore_n (lv' := [(1, Value.int 0), (0, Value.ref h0)]) hx hb dX10_walks_25 rfl hl (by decide) rfl (fun ls hl => ?_)
  refine lp_n_walks_s F hA h0 m_tape ln s_thrown m_rule m_rules sn m_stair s_readStairs s_fault s_faultPlace w h m_low m_high m_crack bc m_weight m_fire m_crowd m_state m_where s_hours s_fees s_looks m_words s_end s_next s_kind s_which s_place s_read m_told m_breaks m_row m_tried m_steps m_paths y_steps y_stair f_stair y_low f_low y_crack f_crack (hK.sub [0, 1, 2, 3] rfl) (fun g_3 h_4 H locs hP hD hS ls hl => ?_) _ g_1 0 (by omega) (by omega) (by omega) (by omega) hst hsp (Nat.lt_succ_self _) _ _ (hP.sub [0, 1, 2, 3, 4] rfl) (hD.sub [0, 1, 2, 3, 4] (by decide) rfl) hS ls (lv_sub hl [1, 0] rfl)
  have h_4 : rOK 10000 g_3 400 := h_4
  have hsp := h_4
  have hP9 := hP.sub (ws' := [(h0, Sum.inr (9, [Value.ref m_tape, Value.int (nI ln), Value.int s_thrown, Value.ref m_rule, Value.ref m_rules, Value.int (nI sn), Value.ref m_stair, Value.int s_readStairs, Value.int s_fault, Value.int s_faultPlace, Value.int (nI w), Value.int (nI h), Value.ref m_low, Value.ref m_high, Value.ref m_crack, Value.int (nI bc), Value.ref m_weight, Value.ref m_fire, Value.ref m_crowd, Value.ref m_state, Value.ref m_where, Value.int s_hours, Value.int s_fees, Value.int s_looks, Value.ref m_words, Value.int s_end, Value.int s_next, Value.int s_kind, Value.int s_which, Value.int s_place, Value.int s_read, Value.ref m_told, Value.ref m_breaks, Value.ref m_row, Value.ref m_tried, Value.ref m_steps, Value.ref m_paths])), (m_steps, Sum.inl (y_steps, 400, Sum.inl g_3)), (m_stair, Sum.inl (y_stair, 24, Sum.inl f_stair)), (m_low, Sum.inl (y_low, 100, Sum.inl f_low)), (m_crack, Sum.inl (y_crack, 100, Sum.inl f_crack))]) [0, 1, 2, 3, 4] rfl
  have hD9 := hD.sub (ws' := [(h0, Sum.inr (9, [Value.ref m_tape, Value.int (nI ln), Value.int s_thrown, Value.ref m_rule, Value.ref m_rules, Value.int (nI sn), Value.ref m_stair, Value.int s_readStairs, Value.int s_fault, Value.int s_faultPlace, Value.int (nI w), Value.int (nI h), Value.ref m_low, Value.ref m_high, Value.ref m_crack, Value.int (nI bc), Value.ref m_weight, Value.ref m_fire, Value.ref m_crowd, Value.ref m_state, Value.ref m_where, Value.int s_hours, Value.int s_fees, Value.int s_looks, Value.ref m_words, Value.int s_end, Value.int s_next, Value.int s_kind, Value.int s_which, Value.int s_place, Value.int s_read, Value.ref m_told, Value.ref m_breaks, Value.ref m_row, Value.ref m_tried, Value.ref m_steps, Value.ref m_paths])), (m_steps, Sum.inl (y_steps, 400, Sum.inl g_3)), (m_stair, Sum.inl (y_stair, 24, Sum.inl f_stair)), (m_low, Sum.inl (y_low, 100, Sum.inl f_low)), (m_crack, Sum.inl (y_crack, 100, Sum.inl f_crack))]) [0, 1, 2, 3, 4] (by decide) rfl
  have hK9 := hK.sub (tys' := []) [] rfl
  refine W.widen (k := 0) (n := 0) (by decide) (by decide) ?_
  exact W.vret hx hb hr (fun t ht hW => ⟨⟨g_3, rfl, hsp, by rw [ht]; exact hP9, va_K.moved hW.alike hK9, hD9⟩, hS.F ht⟩) hS.2.2 dX10_walks_187
set_option maxHeartbeats 4000000 in
set_option maxRecDepth 100000 in
theorem n_stepsOf (l : Launch) (D : va_G) (h0 : Nat) (m_tape : Nat) (ln : Nat) (s_thrown : Int32) (m_rule : Nat) (m_rules : Nat) (sn : Nat) (m_stair : Nat) (s_readStairs : Int32) (s_fault : Int32) (s_faultPlace : Int32) (w : Nat) (h : Nat) (m_low : Nat) (m_high : Nat) (m_crack : Nat) (bc : Nat) (m_weight : Nat) (m_fire : Nat) (m_crowd : Nat) (m_state : Nat) (m_where : Nat) (s_hours : Int32) (s_fees : Int32) (s_looks : Int32) (m_words : Nat) (s_end : Int32) (s_next : Int32) (s_kind : Int32) (s_which : Int32) (s_place : Int32) (s_read : Int32) (m_told : Nat) (m_breaks : Nat) (m_row : Nat) (m_tried : Nat) (m_steps : Nat) (m_paths : Nat) (y_steps : ClassId) (f_steps : Nat → Int32) (y_stair : ClassId) (f_stair : Nat → Int32) (y_low : ClassId) (f_low : Nat → Int32) (y_crack : ClassId) (f_crack : Nat → Int32) (y_where : ClassId) (f_where : Nat → Int32) (b : Nat) (si : Nat) (hb9 : b < 10) (hsi : si < 4) (hst : rOK 100 f_stair 24) (hsp : rOK 10000 f_steps 400) (h3 : w ≤ 10) (h4 : h ≤ 10) : cI l yX10_stepsOf (.code yX10_stepsOf cX10_stepsOf 4 (some .int)) ({ frames := 2, cells := 0, slots := 0, locals := 49 }) D [(y_steps, .int), (y_stair, .int), (y_low, .int), (y_crack, .boolean), (y_where, .int)] [(h0, Sum.inr (9, [Value.ref m_tape, Value.int (nI ln), Value.int s_thrown, Value.ref m_rule, Value.ref m_rules, Value.int (nI sn), Value.ref m_stair, Value.int s_readStairs, Value.int s_fault, Value.int s_faultPlace, Value.int (nI w), Value.int (nI h), Value.ref m_low, Value.ref m_high, Value.ref m_crack, Value.int (nI bc), Value.ref m_weight, Value.ref m_fire, Value.ref m_crowd, Value.ref m_state, Value.ref m_where, Value.int s_hours, Value.int s_fees, Value.int s_looks, Value.ref m_words, Value.int s_end, Value.int s_next, Value.int s_kind, Value.int s_which, Value.int s_place, Value.int s_read, Value.ref m_told, Value.ref m_breaks, Value.ref m_row, Value.ref m_tried, Value.ref m_steps, Value.ref m_paths])), (m_steps, Sum.inl (y_steps, 400, Sum.inl f_steps)), (m_stair, Sum.inl (y_stair, 24, Sum.inl f_stair)), (m_low, Sum.inl (y_low, 100, Sum.inl f_low)), (m_crack, Sum.inl (y_crack, 100, Sum.inl f_crack)), (m_where, Sum.inl (y_where, 10, Sum.inl f_where))] xT [Value.ref h0, Value.int (nI b), Value.int (nI si)] (S := Unit) (fun r _ => r = r) (fun _ => []) (fun _ => [(h0, Sum.inr (9, [Value.ref m_tape, Value.int (nI ln), Value.int s_thrown, Value.ref m_rule, Value.ref m_rules, Value.int (nI sn), Value.ref m_stair, Value.int s_readStairs, Value.int s_fault, Value.int s_faultPlace, Value.int (nI w), Value.int (nI h), Value.ref m_low, Value.ref m_high, Value.ref m_crack, Value.int (nI bc), Value.ref m_weight, Value.ref m_fire, Value.ref m_crowd, Value.ref m_state, Value.ref m_where, Value.int s_hours, Value.int s_fees, Value.int s_looks, Value.ref m_words, Value.int s_end, Value.int s_next, Value.int s_kind, Value.int s_which, Value.int s_place, Value.int s_read, Value.ref m_told, Value.ref m_breaks, Value.ref m_row, Value.ref m_tried, Value.ref m_steps, Value.ref m_paths])), (m_steps, Sum.inl (y_steps, 400, Sum.inl f_steps)), (m_stair, Sum.inl (y_stair, 24, Sum.inl f_stair)), (m_low, Sum.inl (y_low, 100, Sum.inl f_low)), (m_crack, Sum.inl (y_crack, 100, Sum.inl f_crack)), (m_where, Sum.inl (y_where, 10, Sum.inl f_where))]) := by
  intro sz
  refine Met.ofW (cc := cX10_stepsOf) (maxL := 4) (ret := (some .int)) (by decide) rfl ?_
  intro p e s m args below meth c s₁ B hml hv
  obtain ⟨rfl, hsz, hP, hK, hD0, hX⟩ := hv
  have hx := B.exec
  have hb := B.bytes
  have hr := B.returns
  have hts0 := atoms_spec (ws := .code yX10_stepsOf cX10_stepsOf 4 (some .int) :: gw) B.pre
  have hts := fun (w : Cond) (h : w ∈ gw) => hts0 w (List.mem_cons_of_mem _ h)
  have hown : s.vm.findClass RX10 = some m.cls := findClass_of_methodNamed B.named
  have hlocks := B.notSynchronized
  have F : mFix p s m _ c cX10_stepsOf 4 RX10 := ⟨hx, hb, hml, hown, hts⟩
  subst hsz
  have hD := hD0.self (sz := s.heap.size)
  generalize hAe : va_A [(h0, Sum.inr (9, [Value.ref m_tape, Value.int (nI ln), Value.int s_thrown, Value.ref m_rule, Value.ref m_rules, Value.int (nI sn), Value.ref m_stair, Value.int s_readStairs, Value.int s_fault, Value.int s_faultPlace, Value.int (nI w), Value.int (nI h), Value.ref m_low, Value.ref m_high, Value.ref m_crack, Value.int (nI bc), Value.ref m_weight, Value.ref m_fire, Value.ref m_crowd, Value.ref m_state, Value.ref m_where, Value.int s_hours, Value.int s_fees, Value.int s_looks, Value.ref m_words, Value.int s_end, Value.int s_next, Value.int s_kind, Value.int s_which, Value.int s_place, Value.int s_read, Value.ref m_told, Value.ref m_breaks, Value.ref m_row, Value.ref m_tried, Value.ref m_steps, Value.ref m_paths])), (m_steps, Sum.inl (y_steps, 400, Sum.inl f_steps)), (m_stair, Sum.inl (y_stair, 24, Sum.inl f_stair)), (m_low, Sum.inl (y_low, 100, Sum.inl f_low)), (m_crack, Sum.inl (y_crack, 100, Sum.inl f_crack)), (m_where, Sum.inl (y_where, 10, Sum.inl f_where))] s.heap.size = A at hD hX ⊢
  have hA : ∀ q : Nat, s.heap.size ≤ q → A q := fun q h => by rw [← hAe]; exact Or.inr h
  have hS : va_S A s.heap s.heap [] := va_S.rf
  have hl := lv_entry ([Value.ref h0, Value.int (nI b), Value.int (nI si)]) (n := 4) (Nat.le_of_ble_eq_true rfl)
  rw [lg_entry_eq]
  generalize (lg_sl ([Value.ref h0, Value.int (nI b), Value.int (nI si)]) ++ List.replicate (4 - (lg_sl ([Value.ref h0, Value.int (nI b), Value.int (nI si)])).length) Slot.unset).toArray = ls at hl ⊢
  have hl : lv_has ls 4 [(0, Value.ref h0), (1, Value.int (nI b)), (2, Value.int (nI si))] := hl
  have hP : va_P D vwCl [(h0, Sum.inr (9, [Value.ref m_tape, Value.int (nI ln), Value.int s_thrown, Value.ref m_rule, Value.ref m_rules, Value.int (nI sn), Value.ref m_stair, Value.int s_readStairs, Value.int s_fault, Value.int s_faultPlace, Value.int (nI w), Value.int (nI h), Value.ref m_low, Value.ref m_high, Value.ref m_crack, Value.int (nI bc), Value.ref m_weight, Value.ref m_fire, Value.ref m_crowd, Value.ref m_state, Value.ref m_where, Value.int s_hours, Value.int s_fees, Value.int s_looks, Value.ref m_words, Value.int s_end, Value.int s_next, Value.int s_kind, Value.int s_which, Value.int s_place, Value.int s_read, Value.ref m_told, Value.ref m_breaks, Value.ref m_row, Value.ref m_tried, Value.ref m_steps, Value.ref m_paths])), (m_steps, Sum.inl (y_steps, 400, Sum.inl f_steps)), (m_stair, Sum.inl (y_stair, 24, Sum.inl f_stair)), (m_low, Sum.inl (y_low, 100, Sum.inl f_low)), (m_crack, Sum.inl (y_crack, 100, Sum.inl f_crack)), (m_where, Sum.inl (y_where, 10, Sum.inl f_where))] s.heap := hP
  refine lv_aload_n hx hb dX10_stepsOf_0 rfl (lv_at hl 0 rfl) ?_
  refine lv_iload_n hx hb dX10_stepsOf_1 rfl (lv_at hl 2 rfl) ?_
  refine mc_Vi (rest := []) (wr := [(m_steps, Sum.inl (y_steps, 400, Sum.inl f_steps)), (m_where, Sum.inl (y_where, 10, Sum.inl f_where))]) F hK hP hD hS hA (n_isStair l D h0 m_tape ln s_thrown m_rule m_rules sn m_stair s_readStairs s_fault s_faultPlace w h m_low m_high m_crack bc m_weight m_fire m_crowd m_state m_where s_hours s_fees s_looks m_words s_end s_next s_kind s_which s_place s_read m_told m_breaks m_row m_tried m_steps m_paths y_stair f_stair y_low f_low y_crack f_crack si (by omega) hst (by omega) (by omega)) ⟨gk_X10_195.1, gk_X10_195.2, Nat.le_of_ble_eq_true rfl, Nat.le_of_ble_eq_true rfl⟩ [0, 2, 3, 4] [1, 5] [1, 2, 3] ⟨rfl, rfl, rfl, rfl, by decide⟩ rfl xT_move (fun _ _ _ => trivial) 0 rfl rfl rfl hl.1 rfl (Nat.le_of_ble_eq_true rfl) dX10_stepsOf_2 ⟨Nat.le_of_ble_eq_true rfl, Nat.le_of_ble_eq_true rfl⟩ (fun r_1 _ H locs hw hK1 hP hD hS => ?_)
  have hP : va_P D vwCl [(m_steps, Sum.inl (y_steps, 400, Sum.inl f_steps)), (m_where, Sum.inl (y_where, 10, Sum.inl f_where)), (h0, Sum.inr (9, [Value.ref m_tape, Value.int (nI ln), Value.int s_thrown, Value.ref m_rule, Value.ref m_rules, Value.int (nI sn), Value.ref m_stair, Value.int s_readStairs, Value.int s_fault, Value.int s_faultPlace, Value.int (nI w), Value.int (nI h), Value.ref m_low, Value.ref m_high, Value.ref m_crack, Value.int (nI bc), Value.ref m_weight, Value.ref m_fire, Value.ref m_crowd, Value.ref m_state, Value.ref m_where, Value.int s_hours, Value.int s_fees, Value.int s_looks, Value.ref m_words, Value.int s_end, Value.int s_next, Value.int s_kind, Value.int s_which, Value.int s_place, Value.int s_read, Value.ref m_told, Value.ref m_breaks, Value.ref m_row, Value.ref m_tried, Value.ref m_steps, Value.ref m_paths])), (m_stair, Sum.inl (y_stair, 24, Sum.inl f_stair)), (m_low, Sum.inl (y_low, 100, Sum.inl f_low)), (m_crack, Sum.inl (y_crack, 100, Sum.inl f_crack))] H := hP
  have hD : va_D A [(m_steps, Sum.inl (y_steps, 400, Sum.inl f_steps)), (m_where, Sum.inl (y_where, 10, Sum.inl f_where)), (h0, Sum.inr (9, [Value.ref m_tape, Value.int (nI ln), Value.int s_thrown, Value.ref m_rule, Value.ref m_rules, Value.int (nI sn), Value.ref m_stair, Value.int s_readStairs, Value.int s_fault, Value.int s_faultPlace, Value.int (nI w), Value.int (nI h), Value.ref m_low, Value.ref m_high, Value.ref m_crack, Value.int (nI bc), Value.ref m_weight, Value.ref m_fire, Value.ref m_crowd, Value.ref m_state, Value.ref m_where, Value.int s_hours, Value.int s_fees, Value.int s_looks, Value.ref m_words, Value.int s_end, Value.int s_next, Value.int s_kind, Value.int s_which, Value.int s_place, Value.int s_read, Value.ref m_told, Value.ref m_breaks, Value.ref m_row, Value.ref m_tried, Value.ref m_steps, Value.ref m_paths])), (m_stair, Sum.inl (y_stair, 24, Sum.inl f_stair)), (m_low, Sum.inl (y_low, 100, Sum.inl f_low)), (m_crack, Sum.inl (y_crack, 100, Sum.inl f_crack))] := hD
  have hw_2 : r_1 = 0 ∨ r_1 = 1 := hw
  refine lv_if_ne (tgt := 12) hx hb dX10_stepsOf_5 (by decide) (fun c_3 => ?_) (fun c_3 => ?_)
  · skip
    refine lv_aload_n hx hb dX10_stepsOf_12 rfl (lv_at hl 0 rfl) ?_
    refine va_get (D := D) (ci := 9) (v := Value.ref m_where) (C := RX10) (T := TX10) (N := 37) hx hb hts inG_X10 hown hK hP 2 rfl rfl 20 (by decide) (hts _ kw_4_215) (fun _ h9 => h9) rfl dX10_stepsOf_13 ?_
    refine lv_iload_n hx hb dX10_stepsOf_16 rfl (lv_at hl 1 rfl) ?_
    refine m_iald hx hb hK hP 1 4 rfl rfl b rfl (by omega) (by decide) dX10_stepsOf_17 ?_
    refine lv_topi (fun v_4 ev_4 => ?_)
    refine lv_aload_n hx hb dX10_stepsOf_18 rfl (lv_at hl 0 rfl) ?_
    refine va_get (D := D) (ci := 9) (v := Value.ref m_stair) (C := RX10) (T := TX10) (N := 37) hx hb hts inG_X10 hown hK hP 2 rfl rfl 6 (by decide) (hts _ kw_4_201) (fun _ h9 => h9) rfl dX10_stepsOf_19 ?_
    refine lv_iconst (v := 2) hx hb dX10_stepsOf_22 (by decide) ?_
    refine lv_iload_n hx hb dX10_stepsOf_23 rfl (lv_at hl 2 rfl) ?_
    refine lv_imul hx hb dX10_stepsOf_24 ?_
    refine lv_topi (fun z_5 ez_5 => ?_)
    obtain rfl : z_5 = nI (2 * si) := ez_5.trans (pk_mul 2 si)
    refine m_iald hx hb hK hP 3 1 rfl rfl (2 * si) rfl (by omega) (by decide) dX10_stepsOf_25 ?_
    refine lv_topi (fun v_6 ev_6 => ?_)
    obtain ⟨q_7, hq_7, Eq_7⟩ := hst (2 * si) (by omega)
    obtain rfl : v_6 = nI q_7 := ev_6.trans Eq_7
    refine lv_icmp_ne (tgt := 31) hx hb dX10_stepsOf_26 (by decide) (fun c_8 => ?_) (fun c_8 => ?_)
    · skip
      refine lv_aload_n hx hb dX10_stepsOf_31 rfl (lv_at hl 0 rfl) ?_
      refine lv_iload_n hx hb dX10_stepsOf_32 rfl (lv_at hl 2 rfl) ?_
      refine lv_aload_n hx hb dX10_stepsOf_33 rfl (lv_at hl 0 rfl) ?_
      refine va_get (D := D) (ci := 9) (v := Value.ref m_where) (C := RX10) (T := TX10) (N := 37) hx hb hts inG_X10 hown hK hP 2 rfl rfl 20 (by decide) (hts _ kw_4_215) (fun _ h9 => h9) rfl dX10_stepsOf_34 ?_
      refine lv_iload_n hx hb dX10_stepsOf_37 rfl (lv_at hl 1 rfl) ?_
      refine m_iald hx hb hK hP 1 4 rfl rfl b rfl (by omega) (by decide) dX10_stepsOf_38 ?_
      refine lv_topi (fun v_9 ev_9 => ?_)
      refine lv_bipush (v := 10) hx hb dX10_stepsOf_39 (by decide) ?_
      refine lv_irem hx hb dX10_stepsOf_41 (by decide) ?_
      refine lv_topi (fun z_10 ez_10 => ?_)
      refine lv_aload_n hx hb dX10_stepsOf_42 rfl (lv_at hl 0 rfl) ?_
      refine va_get (D := D) (ci := 9) (v := Value.ref m_where) (C := RX10) (T := TX10) (N := 37) hx hb hts inG_X10 hown hK hP 2 rfl rfl 20 (by decide) (hts _ kw_4_215) (fun _ h9 => h9) rfl dX10_stepsOf_43 ?_
      refine lv_iload_n hx hb dX10_stepsOf_46 rfl (lv_at hl 1 rfl) ?_
      refine m_iald hx hb hK hP 1 4 rfl rfl b rfl (by omega) (by decide) dX10_stepsOf_47 ?_
      refine lv_topi (fun v_11 ev_11 => ?_)
      refine lv_bipush (v := 10) hx hb dX10_stepsOf_48 (by decide) ?_
      refine lv_idiv hx hb dX10_stepsOf_50 (by decide) ?_
      refine lv_topi (fun z_12 ez_12 => ?_)
      refine mc_Vi (rest := []) (wr := [(m_where, Sum.inl (y_where, 10, Sum.inl f_where)), (m_stair, Sum.inl (y_stair, 24, Sum.inl f_stair))]) F hK hP hD hS hA (n_beside l D h0 m_tape ln s_thrown m_rule m_rules sn m_stair s_readStairs s_fault s_faultPlace w h m_low m_high m_crack bc m_weight m_fire m_crowd m_state m_where s_hours s_fees s_looks m_words s_end s_next s_kind s_which s_place s_read m_told m_breaks m_row m_tried m_steps m_paths y_steps f_steps y_low f_low y_crack f_crack si z_10 z_12 (by omega) hsp (by omega) (by omega)) ⟨gk_X10_198.1, gk_X10_198.2, Nat.le_of_ble_eq_true rfl, Nat.le_of_ble_eq_true rfl⟩ [2, 0, 4, 5] [1, 3] [0, 2, 3] ⟨rfl, rfl, rfl, rfl, by decide⟩ rfl xT_move (fun _ _ _ => trivial) 2 rfl rfl rfl hl.1 rfl (Nat.le_of_ble_eq_true rfl) dX10_stepsOf_51 ⟨Nat.le_of_ble_eq_true rfl, Nat.le_of_ble_eq_true rfl⟩ (fun r_13 _ H locs hw hK1 hP hD hS => ?_)
      have hP : va_P D vwCl [(m_where, Sum.inl (y_where, 10, Sum.inl f_where)), (m_stair, Sum.inl (y_stair, 24, Sum.inl f_stair)), (h0, Sum.inr (9, [Value.ref m_tape, Value.int (nI ln), Value.int s_thrown, Value.ref m_rule, Value.ref m_rules, Value.int (nI sn), Value.ref m_stair, Value.int s_readStairs, Value.int s_fault, Value.int s_faultPlace, Value.int (nI w), Value.int (nI h), Value.ref m_low, Value.ref m_high, Value.ref m_crack, Value.int (nI bc), Value.ref m_weight, Value.ref m_fire, Value.ref m_crowd, Value.ref m_state, Value.ref m_where, Value.int s_hours, Value.int s_fees, Value.int s_looks, Value.ref m_words, Value.int s_end, Value.int s_next, Value.int s_kind, Value.int s_which, Value.int s_place, Value.int s_read, Value.ref m_told, Value.ref m_breaks, Value.ref m_row, Value.ref m_tried, Value.ref m_steps, Value.ref m_paths])), (m_steps, Sum.inl (y_steps, 400, Sum.inl f_steps)), (m_low, Sum.inl (y_low, 100, Sum.inl f_low)), (m_crack, Sum.inl (y_crack, 100, Sum.inl f_crack))] H := hP
      have hD : va_D A [(m_where, Sum.inl (y_where, 10, Sum.inl f_where)), (m_stair, Sum.inl (y_stair, 24, Sum.inl f_stair)), (h0, Sum.inr (9, [Value.ref m_tape, Value.int (nI ln), Value.int s_thrown, Value.ref m_rule, Value.ref m_rules, Value.int (nI sn), Value.ref m_stair, Value.int s_readStairs, Value.int s_fault, Value.int s_faultPlace, Value.int (nI w), Value.int (nI h), Value.ref m_low, Value.ref m_high, Value.ref m_crack, Value.int (nI bc), Value.ref m_weight, Value.ref m_fire, Value.ref m_crowd, Value.ref m_state, Value.ref m_where, Value.int s_hours, Value.int s_fees, Value.int s_looks, Value.ref m_words, Value.int s_end, Value.int s_next, Value.int s_kind, Value.int s_which, Value.int s_place, Value.int s_read, Value.ref m_told, Value.ref m_breaks, Value.ref m_row, Value.ref m_tried, Value.ref m_steps, Value.ref m_paths])), (m_steps, Sum.inl (y_steps, 400, Sum.inl f_steps)), (m_low, Sum.inl (y_low, 100, Sum.inl f_low)), (m_crack, Sum.inl (y_crack, 100, Sum.inl f_crack))] := hD
      have hw_14 : ∃ q : Nat, q ≤ 9999 ∧ r_13 = nI q := hw
      refine lv_iconst (v := 1) hx hb dX10_stepsOf_54 (by decide) ?_
      refine lv_iadd hx hb dX10_stepsOf_55 ?_
      refine lv_topi (fun z_15 ez_15 => ?_)
      refine lv_istore_n (lv' := [(3, Value.int z_15), (0, Value.ref h0), (1, Value.int (nI b)), (2, Value.int (nI si))]) hx hb dX10_stepsOf_56 rfl hl (by decide) rfl (fun ls hl => ?_)
      refine lv_iload_n hx hb dX10_stepsOf_57 rfl (lv_at hl 0 rfl) ?_
      refine lv_sipush (v := 9999) hx hb dX10_stepsOf_58 (by decide) ?_
      refine lv_icmp_le (tgt := 70) hx hb dX10_stepsOf_61 (by decide) (fun c_16 => ?_) (fun c_16 => ?_)
      · skip
        have c_16 := Int32.not_lt.mpr c_16
        refine lv_iload_n hx hb dX10_stepsOf_70 rfl (lv_at hl 0 rfl) ?_
        have hP9 := hP.sub (ws' := [(h0, Sum.inr (9, [Value.ref m_tape, Value.int (nI ln), Value.int s_thrown, Value.ref m_rule, Value.ref m_rules, Value.int (nI sn), Value.ref m_stair, Value.int s_readStairs, Value.int s_fault, Value.int s_faultPlace, Value.int (nI w), Value.int (nI h), Value.ref m_low, Value.ref m_high, Value.ref m_crack, Value.int (nI bc), Value.ref m_weight, Value.ref m_fire, Value.ref m_crowd, Value.ref m_state, Value.ref m_where, Value.int s_hours, Value.int s_fees, Value.int s_looks, Value.ref m_words, Value.int s_end, Value.int s_next, Value.int s_kind, Value.int s_which, Value.int s_place, Value.int s_read, Value.ref m_told, Value.ref m_breaks, Value.ref m_row, Value.ref m_tried, Value.ref m_steps, Value.ref m_paths])), (m_steps, Sum.inl (y_steps, 400, Sum.inl f_steps)), (m_stair, Sum.inl (y_stair, 24, Sum.inl f_stair)), (m_low, Sum.inl (y_low, 100, Sum.inl f_low)), (m_crack, Sum.inl (y_crack, 100, Sum.inl f_crack)), (m_where, Sum.inl (y_where, 10, Sum.inl f_where))]) [2, 3, 1, 4, 5, 0] rfl
        have hD9 := hD.sub (ws' := [(h0, Sum.inr (9, [Value.ref m_tape, Value.int (nI ln), Value.int s_thrown, Value.ref m_rule, Value.ref m_rules, Value.int (nI sn), Value.ref m_stair, Value.int s_readStairs, Value.int s_fault, Value.int s_faultPlace, Value.int (nI w), Value.int (nI h), Value.ref m_low, Value.ref m_high, Value.ref m_crack, Value.int (nI bc), Value.ref m_weight, Value.ref m_fire, Value.ref m_crowd, Value.ref m_state, Value.ref m_where, Value.int s_hours, Value.int s_fees, Value.int s_looks, Value.ref m_words, Value.int s_end, Value.int s_next, Value.int s_kind, Value.int s_which, Value.int s_place, Value.int s_read, Value.ref m_told, Value.ref m_breaks, Value.ref m_row, Value.ref m_tried, Value.ref m_steps, Value.ref m_paths])), (m_steps, Sum.inl (y_steps, 400, Sum.inl f_steps)), (m_stair, Sum.inl (y_stair, 24, Sum.inl f_stair)), (m_low, Sum.inl (y_low, 100, Sum.inl f_low)), (m_crack, Sum.inl (y_crack, 100, Sum.inl f_crack)), (m_where, Sum.inl (y_where, 10, Sum.inl f_where))]) [2, 3, 1, 4, 5, 0] (by decide) rfl
        have hK9 := hK.sub (tys' := []) [] rfl
        refine W.widen (k := 0) (n := 0) (by decide) (by decide) ?_
        exact W.iret (v := z_15) hx hb hr (fun t ht hW => ⟨⟨z_15, (), rfl, rfl, by rw [ht]; exact hP9, va_K.moved hW.alike hK9, hD9⟩, hS.F ht⟩) hS.2.2 dX10_stepsOf_71
      · skip
        have c_16 := Int32.not_le.mp c_16
        refine lv_sipush (v := 9999) hx hb dX10_stepsOf_64 (by decide) ?_
        refine lv_goto (tgt := 71) hx hb dX10_stepsOf_67 (by decide) ?_
        have hP9 := hP.sub (ws' := [(h0, Sum.inr (9, [Value.ref m_tape, Value.int (nI ln), Value.int s_thrown, Value.ref m_rule, Value.ref m_rules, Value.int (nI sn), Value.ref m_stair, Value.int s_readStairs, Value.int s_fault, Value.int s_faultPlace, Value.int (nI w), Value.int (nI h), Value.ref m_low, Value.ref m_high, Value.ref m_crack, Value.int (nI bc), Value.ref m_weight, Value.ref m_fire, Value.ref m_crowd, Value.ref m_state, Value.ref m_where, Value.int s_hours, Value.int s_fees, Value.int s_looks, Value.ref m_words, Value.int s_end, Value.int s_next, Value.int s_kind, Value.int s_which, Value.int s_place, Value.int s_read, Value.ref m_told, Value.ref m_breaks, Value.ref m_row, Value.ref m_tried, Value.ref m_steps, Value.ref m_paths])), (m_steps, Sum.inl (y_steps, 400, Sum.inl f_steps)), (m_stair, Sum.inl (y_stair, 24, Sum.inl f_stair)), (m_low, Sum.inl (y_low, 100, Sum.inl f_low)), (m_crack, Sum.inl (y_crack, 100, Sum.inl f_crack)), (m_where, Sum.inl (y_where, 10, Sum.inl f_where))]) [2, 3, 1, 4, 5, 0] rfl
        have hD9 := hD.sub (ws' := [(h0, Sum.inr (9, [Value.ref m_tape, Value.int (nI ln), Value.int s_thrown, Value.ref m_rule, Value.ref m_rules, Value.int (nI sn), Value.ref m_stair, Value.int s_readStairs, Value.int s_fault, Value.int s_faultPlace, Value.int (nI w), Value.int (nI h), Value.ref m_low, Value.ref m_high, Value.ref m_crack, Value.int (nI bc), Value.ref m_weight, Value.ref m_fire, Value.ref m_crowd, Value.ref m_state, Value.ref m_where, Value.int s_hours, Value.int s_fees, Value.int s_looks, Value.ref m_words, Value.int s_end, Value.int s_next, Value.int s_kind, Value.int s_which, Value.int s_place, Value.int s_read, Value.ref m_told, Value.ref m_breaks, Value.ref m_row, Value.ref m_tried, Value.ref m_steps, Value.ref m_paths])), (m_steps, Sum.inl (y_steps, 400, Sum.inl f_steps)), (m_stair, Sum.inl (y_stair, 24, Sum.inl f_stair)), (m_low, Sum.inl (y_low, 100, Sum.inl f_low)), (m_crack, Sum.inl (y_crack, 100, Sum.inl f_crack)), (m_where, Sum.inl (y_where, 10, Sum.inl f_where))]) [2, 3, 1, 4, 5, 0] (by decide) rfl
        have hK9 := hK.sub (tys' := []) [] rfl
        refine W.widen (k := 0) (n := 0) (by decide) (by decide) ?_
        exact W.iret (v := 9999) hx hb hr (fun t ht hW => ⟨⟨9999, (), rfl, rfl, by rw [ht]; exact hP9, va_K.moved hW.alike hK9, hD9⟩, hS.F ht⟩) hS.2.2 dX10_stepsOf_71
    · skip
      refine lv_iconst (v := 0) hx hb dX10_stepsOf_29 (by decide) ?_
      have hP9 := hP.sub (ws' := [(h0, Sum.inr (9, [Value.ref m_tape, Value.int (nI ln), Value.int s_thrown, Value.ref m_rule, Value.ref m_rules, Value.int (nI sn), Value.ref m_stair, Value.int s_readStairs, Value.int s_fault, Value.int s_faultPlace, Value.int (nI w), Value.int (nI h), Value.ref m_low, Value.ref m_high, Value.ref m_crack, Value.int (nI bc), Value.ref m_weight, Value.ref m_fire, Value.ref m_crowd, Value.ref m_state, Value.ref m_where, Value.int s_hours, Value.int s_fees, Value.int s_looks, Value.ref m_words, Value.int s_end, Value.int s_next, Value.int s_kind, Value.int s_which, Value.int s_place, Value.int s_read, Value.ref m_told, Value.ref m_breaks, Value.ref m_row, Value.ref m_tried, Value.ref m_steps, Value.ref m_paths])), (m_steps, Sum.inl (y_steps, 400, Sum.inl f_steps)), (m_stair, Sum.inl (y_stair, 24, Sum.inl f_stair)), (m_low, Sum.inl (y_low, 100, Sum.inl f_low)), (m_crack, Sum.inl (y_crack, 100, Sum.inl f_crack)), (m_where, Sum.inl (y_where, 10, Sum.inl f_where))]) [2, 0, 3, 4, 5, 1] rfl
      have hD9 := hD.sub (ws' := [(h0, Sum.inr (9, [Value.ref m_tape, Value.int (nI ln), Value.int s_thrown, Value.ref m_rule, Value.ref m_rules, Value.int (nI sn), Value.ref m_stair, Value.int s_readStairs, Value.int s_fault, Value.int s_faultPlace, Value.int (nI w), Value.int (nI h), Value.ref m_low, Value.ref m_high, Value.ref m_crack, Value.int (nI bc), Value.ref m_weight, Value.ref m_fire, Value.ref m_crowd, Value.ref m_state, Value.ref m_where, Value.int s_hours, Value.int s_fees, Value.int s_looks, Value.ref m_words, Value.int s_end, Value.int s_next, Value.int s_kind, Value.int s_which, Value.int s_place, Value.int s_read, Value.ref m_told, Value.ref m_breaks, Value.ref m_row, Value.ref m_tried, Value.ref m_steps, Value.ref m_paths])), (m_steps, Sum.inl (y_steps, 400, Sum.inl f_steps)), (m_stair, Sum.inl (y_stair, 24, Sum.inl f_stair)), (m_low, Sum.inl (y_low, 100, Sum.inl f_low)), (m_crack, Sum.inl (y_crack, 100, Sum.inl f_crack)), (m_where, Sum.inl (y_where, 10, Sum.inl f_where))]) [2, 0, 3, 4, 5, 1] (by decide) rfl
      have hK9 := hK.sub (tys' := []) [] rfl
      refine W.widen (k := 0) (n := 0) (by decide) (by decide) ?_
      exact W.iret (v := 0) hx hb hr (fun t ht hW => ⟨⟨0, (), rfl, rfl, by rw [ht]; exact hP9, va_K.moved hW.alike hK9, hD9⟩, hS.F ht⟩) hS.2.2 dX10_stepsOf_30
  · skip
    refine lv_sipush (v := 9999) hx hb dX10_stepsOf_8 (by decide) ?_
    have hP9 := hP.sub (ws' := [(h0, Sum.inr (9, [Value.ref m_tape, Value.int (nI ln), Value.int s_thrown, Value.ref m_rule, Value.ref m_rules, Value.int (nI sn), Value.ref m_stair, Value.int s_readStairs, Value.int s_fault, Value.int s_faultPlace, Value.int (nI w), Value.int (nI h), Value.ref m_low, Value.ref m_high, Value.ref m_crack, Value.int (nI bc), Value.ref m_weight, Value.ref m_fire, Value.ref m_crowd, Value.ref m_state, Value.ref m_where, Value.int s_hours, Value.int s_fees, Value.int s_looks, Value.ref m_words, Value.int s_end, Value.int s_next, Value.int s_kind, Value.int s_which, Value.int s_place, Value.int s_read, Value.ref m_told, Value.ref m_breaks, Value.ref m_row, Value.ref m_tried, Value.ref m_steps, Value.ref m_paths])), (m_steps, Sum.inl (y_steps, 400, Sum.inl f_steps)), (m_stair, Sum.inl (y_stair, 24, Sum.inl f_stair)), (m_low, Sum.inl (y_low, 100, Sum.inl f_low)), (m_crack, Sum.inl (y_crack, 100, Sum.inl f_crack)), (m_where, Sum.inl (y_where, 10, Sum.inl f_where))]) [2, 0, 3, 4, 5, 1] rfl
    have hD9 := hD.sub (ws' := [(h0, Sum.inr (9, [Value.ref m_tape, Value.int (nI ln), Value.int s_thrown, Value.ref m_rule, Value.ref m_rules, Value.int (nI sn), Value.ref m_stair, Value.int s_readStairs, Value.int s_fault, Value.int s_faultPlace, Value.int (nI w), Value.int (nI h), Value.ref m_low, Value.ref m_high, Value.ref m_crack, Value.int (nI bc), Value.ref m_weight, Value.ref m_fire, Value.ref m_crowd, Value.ref m_state, Value.ref m_where, Value.int s_hours, Value.int s_fees, Value.int s_looks, Value.ref m_words, Value.int s_end, Value.int s_next, Value.int s_kind, Value.int s_which, Value.int s_place, Value.int s_read, Value.ref m_told, Value.ref m_breaks, Value.ref m_row, Value.ref m_tried, Value.ref m_steps, Value.ref m_paths])), (m_steps, Sum.inl (y_steps, 400, Sum.inl f_steps)), (m_stair, Sum.inl (y_stair, 24, Sum.inl f_stair)), (m_low, Sum.inl (y_low, 100, Sum.inl f_low)), (m_crack, Sum.inl (y_crack, 100, Sum.inl f_crack)), (m_where, Sum.inl (y_where, 10, Sum.inl f_where))]) [2, 0, 3, 4, 5, 1] (by decide) rfl
    have hK9 := hK.sub (tys' := []) [] rfl
    refine W.widen (k := 0) (n := 0) (by decide) (by decide) ?_
    exact W.iret (v := 9999) hx hb hr (fun t ht hW => ⟨⟨9999, (), rfl, rfl, by rw [ht]; exact hP9, va_K.moved hW.alike hK9, hD9⟩, hS.F ht⟩) hS.2.2 dX10_stepsOf_11
set_option maxHeartbeats 4000000 in
set_option maxRecDepth 100000 in
theorem lp_n_path_s {p : Program} {l : Launch} {e : Env} {s : State} {m : MethodId} {args : Array Value} {below : List Frame} {meth : Method} {c : Code} {Q : State → Prop} {A : Nat → Prop} {D : va_G} (F : mFix p s m args c cX10_pathAll 3 RX10) (hA : ∀ q, s.heap.size ≤ q → A q) (h0 : Nat) (m_tape : Nat) (ln : Nat) (s_thrown : Int32) (m_rule : Nat) (m_rules : Nat) (sn : Nat) (m_stair : Nat) (s_readStairs : Int32) (s_fault : Int32) (s_faultPlace : Int32) (w : Nat) (h : Nat) (m_low : Nat) (m_high : Nat) (m_crack : Nat) (bc : Nat) (m_weight : Nat) (m_fire : Nat) (m_crowd : Nat) (m_state : Nat) (m_where : Nat) (s_hours : Int32) (s_fees : Int32) (s_looks : Int32) (m_words : Nat) (s_end : Int32) (s_next : Int32) (s_kind : Int32) (s_which : Int32) (s_place : Int32) (s_read : Int32) (m_told : Nat) (m_breaks : Nat) (m_row : Nat) (m_tried : Nat) (m_steps : Nat) (m_paths : Nat) (y_steps : ClassId) (g : Nat → Int32) (y_stair : ClassId) (f_stair : Nat → Int32) (y_low : ClassId) (f_low : Nat → Int32) (y_crack : ClassId) (f_crack : Nat → Int32) (y_where : ClassId) (f_where : Nat → Int32) (y_state : ClassId) (f_state : Nat → Int32) (y_paths : ClassId) (b : Nat) (hK : va_K D vwCl [(y_steps, .int), (y_stair, .int), (y_low, .int), (y_crack, .boolean), (y_where, .int), (y_state, .int), (y_paths, .int)] s)
    (kx_56 : ∀ (gp : Nat → Int32), ∀ (H : Heap) (locs : List Loc), va_P D vwCl [(h0, Sum.inr (9, [Value.ref m_tape, Value.int (nI ln), Value.int s_thrown, Value.ref m_rule, Value.ref m_rules, Value.int (nI sn), Value.ref m_stair, Value.int s_readStairs, Value.int s_fault, Value.int s_faultPlace, Value.int (nI w), Value.int (nI h), Value.ref m_low, Value.ref m_high, Value.ref m_crack, Value.int (nI bc), Value.ref m_weight, Value.ref m_fire, Value.ref m_crowd, Value.ref m_state, Value.ref m_where, Value.int s_hours, Value.int s_fees, Value.int s_looks, Value.ref m_words, Value.int s_end, Value.int s_next, Value.int s_kind, Value.int s_which, Value.int s_place, Value.int s_read, Value.ref m_told, Value.ref m_breaks, Value.ref m_row, Value.ref m_tried, Value.ref m_steps, Value.ref m_paths])), (m_steps, Sum.inl (y_steps, 400, Sum.inl g)), (m_stair, Sum.inl (y_stair, 24, Sum.inl f_stair)), (m_low, Sum.inl (y_low, 100, Sum.inl f_low)), (m_crack, Sum.inl (y_crack, 100, Sum.inl f_crack)), (m_where, Sum.inl (y_where, 10, Sum.inl f_where)), (m_state, Sum.inl (y_state, 10, Sum.inl f_state)), (m_paths, Sum.inl (y_paths, 40, Sum.inl gp))] H → va_D A [(h0, Sum.inr (9, [Value.ref m_tape, Value.int (nI ln), Value.int s_thrown, Value.ref m_rule, Value.ref m_rules, Value.int (nI sn), Value.ref m_stair, Value.int s_readStairs, Value.int s_fault, Value.int s_faultPlace, Value.int (nI w), Value.int (nI h), Value.ref m_low, Value.ref m_high, Value.ref m_crack, Value.int (nI bc), Value.ref m_weight, Value.ref m_fire, Value.ref m_crowd, Value.ref m_state, Value.ref m_where, Value.int s_hours, Value.int s_fees, Value.int s_looks, Value.ref m_words, Value.int s_end, Value.int s_next, Value.int s_kind, Value.int s_which, Value.int s_place, Value.int s_read, Value.ref m_told, Value.ref m_breaks, Value.ref m_row, Value.ref m_tried, Value.ref m_steps, Value.ref m_paths])), (m_steps, Sum.inl (y_steps, 400, Sum.inl g)), (m_stair, Sum.inl (y_stair, 24, Sum.inl f_stair)), (m_low, Sum.inl (y_low, 100, Sum.inl f_low)), (m_crack, Sum.inl (y_crack, 100, Sum.inl f_crack)), (m_where, Sum.inl (y_where, 10, Sum.inl f_where)), (m_state, Sum.inl (y_state, 10, Sum.inl f_state)), (m_paths, Sum.inl (y_paths, 40, Sum.inl gp))] → va_S A s.heap H locs → ∀ ls : Array Slot, lv_has ls 3 [(0, Value.ref h0), (1, Value.int (nI b))] → W p l e ({ frames := 3, cells := 0, slots := 0, locals := 74 }) s m args below meth c H locs 0 0 Q (F0 m 56 ls [])) :
    ∀ n : Nat, ∀ (gp : Nat → Int32) (si : Nat), (si ≤ sn) → (b < bc) → (bc ≤ 10) → (sn ≤ 4) → (rOK 100 f_stair 24) → (w ≤ 10) → (h ≤ 10) → (rOK 10000 g 400) → (sn - si) < n → ∀ (H : Heap) (locs : List Loc), va_P D vwCl [(h0, Sum.inr (9, [Value.ref m_tape, Value.int (nI ln), Value.int s_thrown, Value.ref m_rule, Value.ref m_rules, Value.int (nI sn), Value.ref m_stair, Value.int s_readStairs, Value.int s_fault, Value.int s_faultPlace, Value.int (nI w), Value.int (nI h), Value.ref m_low, Value.ref m_high, Value.ref m_crack, Value.int (nI bc), Value.ref m_weight, Value.ref m_fire, Value.ref m_crowd, Value.ref m_state, Value.ref m_where, Value.int s_hours, Value.int s_fees, Value.int s_looks, Value.ref m_words, Value.int s_end, Value.int s_next, Value.int s_kind, Value.int s_which, Value.int s_place, Value.int s_read, Value.ref m_told, Value.ref m_breaks, Value.ref m_row, Value.ref m_tried, Value.ref m_steps, Value.ref m_paths])), (m_steps, Sum.inl (y_steps, 400, Sum.inl g)), (m_stair, Sum.inl (y_stair, 24, Sum.inl f_stair)), (m_low, Sum.inl (y_low, 100, Sum.inl f_low)), (m_crack, Sum.inl (y_crack, 100, Sum.inl f_crack)), (m_where, Sum.inl (y_where, 10, Sum.inl f_where)), (m_state, Sum.inl (y_state, 10, Sum.inl f_state)), (m_paths, Sum.inl (y_paths, 40, Sum.inl gp))] H → va_D A [(h0, Sum.inr (9, [Value.ref m_tape, Value.int (nI ln), Value.int s_thrown, Value.ref m_rule, Value.ref m_rules, Value.int (nI sn), Value.ref m_stair, Value.int s_readStairs, Value.int s_fault, Value.int s_faultPlace, Value.int (nI w), Value.int (nI h), Value.ref m_low, Value.ref m_high, Value.ref m_crack, Value.int (nI bc), Value.ref m_weight, Value.ref m_fire, Value.ref m_crowd, Value.ref m_state, Value.ref m_where, Value.int s_hours, Value.int s_fees, Value.int s_looks, Value.ref m_words, Value.int s_end, Value.int s_next, Value.int s_kind, Value.int s_which, Value.int s_place, Value.int s_read, Value.ref m_told, Value.ref m_breaks, Value.ref m_row, Value.ref m_tried, Value.ref m_steps, Value.ref m_paths])), (m_steps, Sum.inl (y_steps, 400, Sum.inl g)), (m_stair, Sum.inl (y_stair, 24, Sum.inl f_stair)), (m_low, Sum.inl (y_low, 100, Sum.inl f_low)), (m_crack, Sum.inl (y_crack, 100, Sum.inl f_crack)), (m_where, Sum.inl (y_where, 10, Sum.inl f_where)), (m_state, Sum.inl (y_state, 10, Sum.inl f_state)), (m_paths, Sum.inl (y_paths, 40, Sum.inl gp))] → va_S A s.heap H locs → ∀ ls : Array Slot, lv_has ls 3 [(0, Value.ref h0), (1, Value.int (nI b)), (2, Value.int (nI si))] → W p l e ({ frames := 3, cells := 0, slots := 0, locals := 74 }) s m args below meth c H locs 0 0 Q (F0 m 16 ls []) := by
  intro n
  induction n with
  | zero => intro gp si hss hb hbc hsn hst h3 h4 hsp hn; exact absurd hn (Nat.not_lt_zero _)
  | succ n ih =>
    intro gp si hss hb hbc hsn hst h3 h4 hsp hn H locs hP hD hS ls hl
    obtain ⟨hx, hb, hml, hown, hts⟩ := id F
    refine lv_iload_n hx hb dX10_pathAll_16 rfl (lv_at hl 2 rfl) ?_
    refine lv_aload_n hx hb dX10_pathAll_17 rfl (lv_at hl 0 rfl) ?_
    refine va_get (D := D) (ci := 9) (v := Value.int (nI sn)) (C := RX10) (T := TX10) (N := 37) hx hb hts inG_X10 hown hK hP 0 rfl rfl 5 (by decide) (hts _ kw_4_200) (fun _ h9 => h9) rfl dX10_pathAll_18 ?_
    refine lv_icmp_ge (tgt := 56) hx hb dX10_pathAll_21 (by decide) (fun c_1 => ?_) (fun c_1 => ?_)
    · skip
      have c_1n : sn ≤ si := (nI_leI (by omega) (by omega)).mp c_1
      have c_1 := Int32.not_lt.mpr c_1
      exact kx_56 gp  H locs (hP.sub [0, 1, 2, 3, 4, 5, 6, 7] rfl) (hD.sub [0, 1, 2, 3, 4, 5, 6, 7] (by decide) rfl) hS ls (lv_sub hl [0, 1] rfl)
    · skip
      have c_1n : si < sn := nb_le (by omega) (by omega) c_1
      have c_1 := Int32.not_le.mp c_1
      refine lv_aload_n hx hb dX10_pathAll_24 rfl (lv_at hl 0 rfl) ?_
      refine va_get (D := D) (ci := 9) (v := Value.ref m_state) (C := RX10) (T := TX10) (N := 37) hx hb hts inG_X10 hown hK hP 0 rfl rfl 19 (by decide) (hts _ kw_4_214) (fun _ h9 => h9) rfl dX10_pathAll_25 ?_
      refine lv_iload_n hx hb dX10_pathAll_28 rfl (lv_at hl 1 rfl) ?_
      refine m_iald hx hb hK hP 6 5 rfl rfl b rfl (by omega) (by decide) dX10_pathAll_29 ?_
      refine lv_topi (fun v_2 ev_2 => ?_)
      refine lv_iconst (v := 1) hx hb dX10_pathAll_30 (by decide) ?_
      refine lv_icmp_ne (tgt := 56) hx hb dX10_pathAll_31 (by decide) (fun c_3 => ?_) (fun c_3 => ?_)
      · skip
        exact kx_56 gp  H locs (hP.sub [0, 1, 2, 3, 4, 5, 6, 7] rfl) (hD.sub [0, 1, 2, 3, 4, 5, 6, 7] (by decide) rfl) hS ls (lv_sub hl [0, 1] rfl)
      · skip
        refine lv_aload_n hx hb dX10_pathAll_34 rfl (lv_at hl 0 rfl) ?_
        refine va_get (D := D) (ci := 9) (v := Value.ref m_paths) (C := RX10) (T := TX10) (N := 37) hx hb hts inG_X10 hown hK hP 0 rfl rfl 36 (by decide) (hts _ kw_4_231) (fun _ h9 => h9) rfl dX10_pathAll_35 ?_
        refine lv_iconst (v := 4) hx hb dX10_pathAll_38 (by decide) ?_
        refine lv_iload_n hx hb dX10_pathAll_39 rfl (lv_at hl 1 rfl) ?_
        refine lv_imul hx hb dX10_pathAll_40 ?_
        refine lv_topi (fun z_4 ez_4 => ?_)
        obtain rfl : z_4 = nI (4 * b) := ez_4.trans (pk_mul 4 b)
        refine lv_iload_n hx hb dX10_pathAll_41 rfl (lv_at hl 2 rfl) ?_
        refine lv_iadd hx hb dX10_pathAll_42 ?_
        refine lv_topi (fun z_5 ez_5 => ?_)
        obtain rfl : z_5 = nI (4 * b + si) := ez_5.trans (nI_add (4 * b) si)
        refine lv_aload_n hx hb dX10_pathAll_43 rfl (lv_at hl 0 rfl) ?_
        refine lv_iload_n hx hb dX10_pathAll_44 rfl (lv_at hl 1 rfl) ?_
        refine lv_iload_n hx hb dX10_pathAll_45 rfl (lv_at hl 2 rfl) ?_
        refine mc_Vi (rest := [Value.int (nI (4 * b + si)), Value.ref m_paths]) (wr := [(m_state, Sum.inl (y_state, 10, Sum.inl f_state)), (m_paths, Sum.inl (y_paths, 40, Sum.inl gp))]) F hK hP hD hS hA (n_stepsOf l D h0 m_tape ln s_thrown m_rule m_rules sn m_stair s_readStairs s_fault s_faultPlace w h m_low m_high m_crack bc m_weight m_fire m_crowd m_state m_where s_hours s_fees s_looks m_words s_end s_next s_kind s_which s_place s_read m_told m_breaks m_row m_tried m_steps m_paths y_steps g y_stair f_stair y_low f_low y_crack f_crack y_where f_where b si (by omega) (by omega) hst hsp (by omega) (by omega)) ⟨gk_X10_205.1, gk_X10_205.2, Nat.le_of_ble_eq_true rfl, Nat.le_of_ble_eq_true rfl⟩ [0, 1, 2, 3, 4, 5] [6, 7] [0, 1, 2, 3, 4] ⟨rfl, rfl, rfl, rfl, by decide⟩ rfl xT_move (fun _ _ _ => trivial) 0 rfl rfl rfl hl.1 rfl (Nat.le_of_ble_eq_true rfl) dX10_pathAll_46 ⟨Nat.le_of_ble_eq_true rfl, Nat.le_of_ble_eq_true rfl⟩ (fun r_6 _ H locs hw hK1 hP hD hS => ?_)
        have hP : va_P D vwCl [(m_state, Sum.inl (y_state, 10, Sum.inl f_state)), (m_paths, Sum.inl (y_paths, 40, Sum.inl gp)), (h0, Sum.inr (9, [Value.ref m_tape, Value.int (nI ln), Value.int s_thrown, Value.ref m_rule, Value.ref m_rules, Value.int (nI sn), Value.ref m_stair, Value.int s_readStairs, Value.int s_fault, Value.int s_faultPlace, Value.int (nI w), Value.int (nI h), Value.ref m_low, Value.ref m_high, Value.ref m_crack, Value.int (nI bc), Value.ref m_weight, Value.ref m_fire, Value.ref m_crowd, Value.ref m_state, Value.ref m_where, Value.int s_hours, Value.int s_fees, Value.int s_looks, Value.ref m_words, Value.int s_end, Value.int s_next, Value.int s_kind, Value.int s_which, Value.int s_place, Value.int s_read, Value.ref m_told, Value.ref m_breaks, Value.ref m_row, Value.ref m_tried, Value.ref m_steps, Value.ref m_paths])), (m_steps, Sum.inl (y_steps, 400, Sum.inl g)), (m_stair, Sum.inl (y_stair, 24, Sum.inl f_stair)), (m_low, Sum.inl (y_low, 100, Sum.inl f_low)), (m_crack, Sum.inl (y_crack, 100, Sum.inl f_crack)), (m_where, Sum.inl (y_where, 10, Sum.inl f_where))] H := hP
        have hD : va_D A [(m_state, Sum.inl (y_state, 10, Sum.inl f_state)), (m_paths, Sum.inl (y_paths, 40, Sum.inl gp)), (h0, Sum.inr (9, [Value.ref m_tape, Value.int (nI ln), Value.int s_thrown, Value.ref m_rule, Value.ref m_rules, Value.int (nI sn), Value.ref m_stair, Value.int s_readStairs, Value.int s_fault, Value.int s_faultPlace, Value.int (nI w), Value.int (nI h), Value.ref m_low, Value.ref m_high, Value.ref m_crack, Value.int (nI bc), Value.ref m_weight, Value.ref m_fire, Value.ref m_crowd, Value.ref m_state, Value.ref m_where, Value.int s_hours, Value.int s_fees, Value.int s_looks, Value.ref m_words, Value.int s_end, Value.int s_next, Value.int s_kind, Value.int s_which, Value.int s_place, Value.int s_read, Value.ref m_told, Value.ref m_breaks, Value.ref m_row, Value.ref m_tried, Value.ref m_steps, Value.ref m_paths])), (m_steps, Sum.inl (y_steps, 400, Sum.inl g)), (m_stair, Sum.inl (y_stair, 24, Sum.inl f_stair)), (m_low, Sum.inl (y_low, 100, Sum.inl f_low)), (m_crack, Sum.inl (y_crack, 100, Sum.inl f_crack)), (m_where, Sum.inl (y_where, 10, Sum.inl f_where))] := hD
        have hw_7 : r_6 = r_6 := hw
        refine m_iast hx hb hK hP hD hS 1 6 rfl rfl (4 * b + si) rfl (by omega) (by decide) dX10_pathAll_49 (fun g_8 H locs eg_8 hP hD hS => ?_)
        have hP : va_P D vwCl [(m_state, Sum.inl (y_state, 10, Sum.inl f_state)), (m_paths, Sum.inl (y_paths, 40, Sum.inl g_8)), (h0, Sum.inr (9, [Value.ref m_tape, Value.int (nI ln), Value.int s_thrown, Value.ref m_rule, Value.ref m_rules, Value.int (nI sn), Value.ref m_stair, Value.int s_readStairs, Value.int s_fault, Value.int s_faultPlace, Value.int (nI w), Value.int (nI h), Value.ref m_low, Value.ref m_high, Value.ref m_crack, Value.int (nI bc), Value.ref m_weight, Value.ref m_fire, Value.ref m_crowd, Value.ref m_state, Value.ref m_where, Value.int s_hours, Value.int s_fees, Value.int s_looks, Value.ref m_words, Value.int s_end, Value.int s_next, Value.int s_kind, Value.int s_which, Value.int s_place, Value.int s_read, Value.ref m_told, Value.ref m_breaks, Value.ref m_row, Value.ref m_tried, Value.ref m_steps, Value.ref m_paths])), (m_steps, Sum.inl (y_steps, 400, Sum.inl g)), (m_stair, Sum.inl (y_stair, 24, Sum.inl f_stair)), (m_low, Sum.inl (y_low, 100, Sum.inl f_low)), (m_crack, Sum.inl (y_crack, 100, Sum.inl f_crack)), (m_where, Sum.inl (y_where, 10, Sum.inl f_where))] H := hP
        have hD : va_D A [(m_state, Sum.inl (y_state, 10, Sum.inl f_state)), (m_paths, Sum.inl (y_paths, 40, Sum.inl g_8)), (h0, Sum.inr (9, [Value.ref m_tape, Value.int (nI ln), Value.int s_thrown, Value.ref m_rule, Value.ref m_rules, Value.int (nI sn), Value.ref m_stair, Value.int s_readStairs, Value.int s_fault, Value.int s_faultPlace, Value.int (nI w), Value.int (nI h), Value.ref m_low, Value.ref m_high, Value.ref m_crack, Value.int (nI bc), Value.ref m_weight, Value.ref m_fire, Value.ref m_crowd, Value.ref m_state, Value.ref m_where, Value.int s_hours, Value.int s_fees, Value.int s_looks, Value.ref m_words, Value.int s_end, Value.int s_next, Value.int s_kind, Value.int s_which, Value.int s_place, Value.int s_read, Value.ref m_told, Value.ref m_breaks, Value.ref m_row, Value.ref m_tried, Value.ref m_steps, Value.ref m_paths])), (m_steps, Sum.inl (y_steps, 400, Sum.inl g)), (m_stair, Sum.inl (y_stair, 24, Sum.inl f_stair)), (m_low, Sum.inl (y_low, 100, Sum.inl f_low)), (m_crack, Sum.inl (y_crack, 100, Sum.inl f_crack)), (m_where, Sum.inl (y_where, 10, Sum.inl f_where))] := hD
        refine lv_iinc (v := nI (si + 1)) (lv' := [(2, Value.int (nI (si + 1))), (0, Value.ref h0), (1, Value.int (nI b))]) hx hb dX10_pathAll_50 hl (k := 2) rfl (nI_add si 1) (by decide) rfl (fun ls hl => ?_)
        refine lv_goto (tgt := 16) hx hb dX10_pathAll_53 (by decide) ?_
        exact ih g_8 (si + 1) (by omega) (by omega) (by omega) (by omega) hst (by omega) (by omega) hsp (by omega) H locs (hP.sub [2, 3, 4, 5, 6, 7, 0, 1] rfl) (hD.sub [2, 3, 4, 5, 6, 7, 0, 1] (by decide) rfl) hS ls (lv_sub hl [1, 2, 0] rfl)
set_option maxHeartbeats 4000000 in
set_option maxRecDepth 100000 in
theorem lp_n_path_b {p : Program} {l : Launch} {e : Env} {s : State} {m : MethodId} {args : Array Value} {below : List Frame} {meth : Method} {c : Code} {Q : State → Prop} {A : Nat → Prop} {D : va_G} (F : mFix p s m args c cX10_pathAll 3 RX10) (hA : ∀ q, s.heap.size ≤ q → A q) (h0 : Nat) (m_tape : Nat) (ln : Nat) (s_thrown : Int32) (m_rule : Nat) (m_rules : Nat) (sn : Nat) (m_stair : Nat) (s_readStairs : Int32) (s_fault : Int32) (s_faultPlace : Int32) (w : Nat) (h : Nat) (m_low : Nat) (m_high : Nat) (m_crack : Nat) (bc : Nat) (m_weight : Nat) (m_fire : Nat) (m_crowd : Nat) (m_state : Nat) (m_where : Nat) (s_hours : Int32) (s_fees : Int32) (s_looks : Int32) (m_words : Nat) (s_end : Int32) (s_next : Int32) (s_kind : Int32) (s_which : Int32) (s_place : Int32) (s_read : Int32) (m_told : Nat) (m_breaks : Nat) (m_row : Nat) (m_tried : Nat) (m_steps : Nat) (m_paths : Nat) (y_steps : ClassId) (g : Nat → Int32) (y_stair : ClassId) (f_stair : Nat → Int32) (y_low : ClassId) (f_low : Nat → Int32) (y_crack : ClassId) (f_crack : Nat → Int32) (y_where : ClassId) (f_where : Nat → Int32) (y_state : ClassId) (f_state : Nat → Int32) (y_paths : ClassId) (hK : va_K D vwCl [(y_steps, .int), (y_stair, .int), (y_low, .int), (y_crack, .boolean), (y_where, .int), (y_state, .int), (y_paths, .int)] s)
    (kx_62 : ∀ (gp : Nat → Int32), ∀ (H : Heap) (locs : List Loc), va_P D vwCl [(h0, Sum.inr (9, [Value.ref m_tape, Value.int (nI ln), Value.int s_thrown, Value.ref m_rule, Value.ref m_rules, Value.int (nI sn), Value.ref m_stair, Value.int s_readStairs, Value.int s_fault, Value.int s_faultPlace, Value.int (nI w), Value.int (nI h), Value.ref m_low, Value.ref m_high, Value.ref m_crack, Value.int (nI bc), Value.ref m_weight, Value.ref m_fire, Value.ref m_crowd, Value.ref m_state, Value.ref m_where, Value.int s_hours, Value.int s_fees, Value.int s_looks, Value.ref m_words, Value.int s_end, Value.int s_next, Value.int s_kind, Value.int s_which, Value.int s_place, Value.int s_read, Value.ref m_told, Value.ref m_breaks, Value.ref m_row, Value.ref m_tried, Value.ref m_steps, Value.ref m_paths])), (m_steps, Sum.inl (y_steps, 400, Sum.inl g)), (m_stair, Sum.inl (y_stair, 24, Sum.inl f_stair)), (m_low, Sum.inl (y_low, 100, Sum.inl f_low)), (m_crack, Sum.inl (y_crack, 100, Sum.inl f_crack)), (m_where, Sum.inl (y_where, 10, Sum.inl f_where)), (m_state, Sum.inl (y_state, 10, Sum.inl f_state)), (m_paths, Sum.inl (y_paths, 40, Sum.inl gp))] H → va_D A [(h0, Sum.inr (9, [Value.ref m_tape, Value.int (nI ln), Value.int s_thrown, Value.ref m_rule, Value.ref m_rules, Value.int (nI sn), Value.ref m_stair, Value.int s_readStairs, Value.int s_fault, Value.int s_faultPlace, Value.int (nI w), Value.int (nI h), Value.ref m_low, Value.ref m_high, Value.ref m_crack, Value.int (nI bc), Value.ref m_weight, Value.ref m_fire, Value.ref m_crowd, Value.ref m_state, Value.ref m_where, Value.int s_hours, Value.int s_fees, Value.int s_looks, Value.ref m_words, Value.int s_end, Value.int s_next, Value.int s_kind, Value.int s_which, Value.int s_place, Value.int s_read, Value.ref m_told, Value.ref m_breaks, Value.ref m_row, Value.ref m_tried, Value.ref m_steps, Value.ref m_paths])), (m_steps, Sum.inl (y_steps, 400, Sum.inl g)), (m_stair, Sum.inl (y_stair, 24, Sum.inl f_stair)), (m_low, Sum.inl (y_low, 100, Sum.inl f_low)), (m_crack, Sum.inl (y_crack, 100, Sum.inl f_crack)), (m_where, Sum.inl (y_where, 10, Sum.inl f_where)), (m_state, Sum.inl (y_state, 10, Sum.inl f_state)), (m_paths, Sum.inl (y_paths, 40, Sum.inl gp))] → va_S A s.heap H locs → ∀ ls : Array Slot, lv_has ls 3 [] → W p l e ({ frames := 3, cells := 0, slots := 0, locals := 74 }) s m args below meth c H locs 0 0 Q (F0 m 62 ls [])) :
    ∀ n : Nat, ∀ (gp : Nat → Int32) (b : Nat), (b ≤ bc) → (bc ≤ 10) → (sn ≤ 4) → (rOK 100 f_stair 24) → (w ≤ 10) → (h ≤ 10) → (rOK 10000 g 400) → (bc - b) < n → ∀ (H : Heap) (locs : List Loc), va_P D vwCl [(h0, Sum.inr (9, [Value.ref m_tape, Value.int (nI ln), Value.int s_thrown, Value.ref m_rule, Value.ref m_rules, Value.int (nI sn), Value.ref m_stair, Value.int s_readStairs, Value.int s_fault, Value.int s_faultPlace, Value.int (nI w), Value.int (nI h), Value.ref m_low, Value.ref m_high, Value.ref m_crack, Value.int (nI bc), Value.ref m_weight, Value.ref m_fire, Value.ref m_crowd, Value.ref m_state, Value.ref m_where, Value.int s_hours, Value.int s_fees, Value.int s_looks, Value.ref m_words, Value.int s_end, Value.int s_next, Value.int s_kind, Value.int s_which, Value.int s_place, Value.int s_read, Value.ref m_told, Value.ref m_breaks, Value.ref m_row, Value.ref m_tried, Value.ref m_steps, Value.ref m_paths])), (m_steps, Sum.inl (y_steps, 400, Sum.inl g)), (m_stair, Sum.inl (y_stair, 24, Sum.inl f_stair)), (m_low, Sum.inl (y_low, 100, Sum.inl f_low)), (m_crack, Sum.inl (y_crack, 100, Sum.inl f_crack)), (m_where, Sum.inl (y_where, 10, Sum.inl f_where)), (m_state, Sum.inl (y_state, 10, Sum.inl f_state)), (m_paths, Sum.inl (y_paths, 40, Sum.inl gp))] H → va_D A [(h0, Sum.inr (9, [Value.ref m_tape, Value.int (nI ln), Value.int s_thrown, Value.ref m_rule, Value.ref m_rules, Value.int (nI sn), Value.ref m_stair, Value.int s_readStairs, Value.int s_fault, Value.int s_faultPlace, Value.int (nI w), Value.int (nI h), Value.ref m_low, Value.ref m_high, Value.ref m_crack, Value.int (nI bc), Value.ref m_weight, Value.ref m_fire, Value.ref m_crowd, Value.ref m_state, Value.ref m_where, Value.int s_hours, Value.int s_fees, Value.int s_looks, Value.ref m_words, Value.int s_end, Value.int s_next, Value.int s_kind, Value.int s_which, Value.int s_place, Value.int s_read, Value.ref m_told, Value.ref m_breaks, Value.ref m_row, Value.ref m_tried, Value.ref m_steps, Value.ref m_paths])), (m_steps, Sum.inl (y_steps, 400, Sum.inl g)), (m_stair, Sum.inl (y_stair, 24, Sum.inl f_stair)), (m_low, Sum.inl (y_low, 100, Sum.inl f_low)), (m_crack, Sum.inl (y_crack, 100, Sum.inl f_crack)), (m_where, Sum.inl (y_where, 10, Sum.inl f_where)), (m_state, Sum.inl (y_state, 10, Sum.inl f_state)), (m_paths, Sum.inl (y_paths, 40, Sum.inl gp))] → va_S A s.heap H locs → ∀ ls : Array Slot, lv_has ls 3 [(0, Value.ref h0), (1, Value.int (nI b))] → W p l e ({ frames := 3, cells := 0, slots := 0, locals := 74 }) s m args below meth c H locs 0 0 Q (F0 m 6 ls []) := by
  intro n
  induction n with
  | zero => intro gp b hb hbc hsn hst h3 h4 hsp hn; exact absurd hn (Nat.not_lt_zero _)
  | succ n ih =>
    intro gp b hb hbc hsn hst h3 h4 hsp hn H locs hP hD hS ls hl
    obtain ⟨hx, hb, hml, hown, hts⟩ := id F
    refine lv_iload_n hx hb dX10_pathAll_6 rfl (lv_at hl 1 rfl) ?_
    refine lv_aload_n hx hb dX10_pathAll_7 rfl (lv_at hl 0 rfl) ?_
    refine va_get (D := D) (ci := 9) (v := Value.int (nI bc)) (C := RX10) (T := TX10) (N := 37) hx hb hts inG_X10 hown hK hP 0 rfl rfl 15 (by decide) (hts _ kw_4_210) (fun _ h9 => h9) rfl dX10_pathAll_8 ?_
    refine lv_icmp_ge (tgt := 62) hx hb dX10_pathAll_11 (by decide) (fun c_1 => ?_) (fun c_1 => ?_)
    · skip
      have c_1n : bc ≤ b := (nI_leI (by omega) (by omega)).mp c_1
      have c_1 := Int32.not_lt.mpr c_1
      exact kx_62 gp  H locs (hP.sub [0, 1, 2, 3, 4, 5, 6, 7] rfl) (hD.sub [0, 1, 2, 3, 4, 5, 6, 7] (by decide) rfl) hS ls (lv_sub hl [] rfl)
    · skip
      have c_1n : b < bc := nb_le (by omega) (by omega) c_1
      have c_1 := Int32.not_le.mp c_1
      refine lv_iconst (v := 0) hx hb dX10_pathAll_14 (by decide) ?_
      refine lv_istore_n (lv' := [(2, Value.int 0), (0, Value.ref h0), (1, Value.int (nI b))]) hx hb dX10_pathAll_15 rfl hl (by decide) rfl (fun ls hl => ?_)
      refine lp_n_path_s F hA h0 m_tape ln s_thrown m_rule m_rules sn m_stair s_readStairs s_fault s_faultPlace w h m_low m_high m_crack bc m_weight m_fire m_crowd m_state m_where s_hours s_fees s_looks m_words s_end s_next s_kind s_which s_place s_read m_told m_breaks m_row m_tried m_steps m_paths y_steps g y_stair f_stair y_low f_low y_crack f_crack y_where f_where y_state f_state y_paths b (hK.sub [0, 1, 2, 3, 4, 5, 6] rfl) (fun gp_2  H locs hP hD hS ls hl => ?_) _ gp 0 (by omega) (by omega) (by omega) (by omega) hst (by omega) (by omega) hsp (Nat.lt_succ_self _) _ _ (hP.sub [0, 1, 2, 3, 4, 5, 6, 7] rfl) (hD.sub [0, 1, 2, 3, 4, 5, 6, 7] (by decide) rfl) hS ls (lv_sub hl [1, 2, 0] rfl)
      refine lv_iinc (v := nI (b + 1)) (lv' := [(1, Value.int (nI (b + 1))), (0, Value.ref h0)]) hx hb dX10_pathAll_56 hl (k := 1) rfl (nI_add b 1) (by decide) rfl (fun ls hl => ?_)
      refine lv_goto (tgt := 6) hx hb dX10_pathAll_59 (by decide) ?_
      exact ih gp_2 (b + 1) (by omega) (by omega) (by omega) hst (by omega) (by omega) hsp (by omega) H locs (hP.sub [0, 1, 2, 3, 4, 5, 6, 7] rfl) (hD.sub [0, 1, 2, 3, 4, 5, 6, 7] (by decide) rfl) hS ls (lv_sub hl [1, 0] rfl)
set_option maxHeartbeats 4000000 in
set_option maxRecDepth 100000 in
theorem n_pathAll (l : Launch) (D : va_G) (h0 : Nat) (m_tape : Nat) (ln : Nat) (s_thrown : Int32) (m_rule : Nat) (m_rules : Nat) (sn : Nat) (m_stair : Nat) (s_readStairs : Int32) (s_fault : Int32) (s_faultPlace : Int32) (w : Nat) (h : Nat) (m_low : Nat) (m_high : Nat) (m_crack : Nat) (bc : Nat) (m_weight : Nat) (m_fire : Nat) (m_crowd : Nat) (m_state : Nat) (m_where : Nat) (s_hours : Int32) (s_fees : Int32) (s_looks : Int32) (m_words : Nat) (s_end : Int32) (s_next : Int32) (s_kind : Int32) (s_which : Int32) (s_place : Int32) (s_read : Int32) (m_told : Nat) (m_breaks : Nat) (m_row : Nat) (m_tried : Nat) (m_steps : Nat) (m_paths : Nat) (y_steps : ClassId) (f_steps : Nat → Int32) (y_stair : ClassId) (f_stair : Nat → Int32) (y_low : ClassId) (f_low : Nat → Int32) (y_crack : ClassId) (f_crack : Nat → Int32) (y_where : ClassId) (f_where : Nat → Int32) (y_state : ClassId) (f_state : Nat → Int32) (y_paths : ClassId) (f_paths : Nat → Int32) (hbc : bc ≤ 10) (hsn : sn ≤ 4) (hst : rOK 100 f_stair 24) (h3 : w ≤ 10) (h4 : h ≤ 10) : cV l yX10_pathAll (.code yX10_pathAll cX10_pathAll 3 none) ({ frames := 3, cells := 0, slots := 0, locals := 74 }) D [(y_steps, .int), (y_stair, .int), (y_low, .int), (y_crack, .boolean), (y_where, .int), (y_state, .int), (y_paths, .int)] [(h0, Sum.inr (9, [Value.ref m_tape, Value.int (nI ln), Value.int s_thrown, Value.ref m_rule, Value.ref m_rules, Value.int (nI sn), Value.ref m_stair, Value.int s_readStairs, Value.int s_fault, Value.int s_faultPlace, Value.int (nI w), Value.int (nI h), Value.ref m_low, Value.ref m_high, Value.ref m_crack, Value.int (nI bc), Value.ref m_weight, Value.ref m_fire, Value.ref m_crowd, Value.ref m_state, Value.ref m_where, Value.int s_hours, Value.int s_fees, Value.int s_looks, Value.ref m_words, Value.int s_end, Value.int s_next, Value.int s_kind, Value.int s_which, Value.int s_place, Value.int s_read, Value.ref m_told, Value.ref m_breaks, Value.ref m_row, Value.ref m_tried, Value.ref m_steps, Value.ref m_paths])), (m_steps, Sum.inl (y_steps, 400, Sum.inl f_steps)), (m_stair, Sum.inl (y_stair, 24, Sum.inl f_stair)), (m_low, Sum.inl (y_low, 100, Sum.inl f_low)), (m_crack, Sum.inl (y_crack, 100, Sum.inl f_crack)), (m_where, Sum.inl (y_where, 10, Sum.inl f_where)), (m_state, Sum.inl (y_state, 10, Sum.inl f_state)), (m_paths, Sum.inl (y_paths, 40, Sum.inl f_paths))] xT [Value.ref h0] (S := (Nat → Int32) × (Nat → Int32)) (fun u => match u with | (g_steps, g_paths) => True) (fun u => match u with | (g_steps, g_paths) => []) (fun u => match u with | (g_steps, g_paths) => [(h0, Sum.inr (9, [Value.ref m_tape, Value.int (nI ln), Value.int s_thrown, Value.ref m_rule, Value.ref m_rules, Value.int (nI sn), Value.ref m_stair, Value.int s_readStairs, Value.int s_fault, Value.int s_faultPlace, Value.int (nI w), Value.int (nI h), Value.ref m_low, Value.ref m_high, Value.ref m_crack, Value.int (nI bc), Value.ref m_weight, Value.ref m_fire, Value.ref m_crowd, Value.ref m_state, Value.ref m_where, Value.int s_hours, Value.int s_fees, Value.int s_looks, Value.ref m_words, Value.int s_end, Value.int s_next, Value.int s_kind, Value.int s_which, Value.int s_place, Value.int s_read, Value.ref m_told, Value.ref m_breaks, Value.ref m_row, Value.ref m_tried, Value.ref m_steps, Value.ref m_paths])), (m_steps, Sum.inl (y_steps, 400, Sum.inl g_steps)), (m_stair, Sum.inl (y_stair, 24, Sum.inl f_stair)), (m_low, Sum.inl (y_low, 100, Sum.inl f_low)), (m_crack, Sum.inl (y_crack, 100, Sum.inl f_crack)), (m_where, Sum.inl (y_where, 10, Sum.inl f_where)), (m_state, Sum.inl (y_state, 10, Sum.inl f_state)), (m_paths, Sum.inl (y_paths, 40, Sum.inl g_paths))]) := by
  intro sz
  refine Met.ofW (cc := cX10_pathAll) (maxL := 3) (ret := none) (by decide) rfl ?_
  intro p e s m args below meth c s₁ B hml hv
  obtain ⟨rfl, hsz, hP, hK, hD0, hX⟩ := hv
  have hx := B.exec
  have hb := B.bytes
  have hr := B.returns
  have hts0 := atoms_spec (ws := .code yX10_pathAll cX10_pathAll 3 none :: gw) B.pre
  have hts := fun (w : Cond) (h : w ∈ gw) => hts0 w (List.mem_cons_of_mem _ h)
  have hown : s.vm.findClass RX10 = some m.cls := findClass_of_methodNamed B.named
  have hlocks := B.notSynchronized
  have F : mFix p s m _ c cX10_pathAll 3 RX10 := ⟨hx, hb, hml, hown, hts⟩
  subst hsz
  have hD := hD0.self (sz := s.heap.size)
  generalize hAe : va_A [(h0, Sum.inr (9, [Value.ref m_tape, Value.int (nI ln), Value.int s_thrown, Value.ref m_rule, Value.ref m_rules, Value.int (nI sn), Value.ref m_stair, Value.int s_readStairs, Value.int s_fault, Value.int s_faultPlace, Value.int (nI w), Value.int (nI h), Value.ref m_low, Value.ref m_high, Value.ref m_crack, Value.int (nI bc), Value.ref m_weight, Value.ref m_fire, Value.ref m_crowd, Value.ref m_state, Value.ref m_where, Value.int s_hours, Value.int s_fees, Value.int s_looks, Value.ref m_words, Value.int s_end, Value.int s_next, Value.int s_kind, Value.int s_which, Value.int s_place, Value.int s_read, Value.ref m_told, Value.ref m_breaks, Value.ref m_row, Value.ref m_tried, Value.ref m_steps, Value.ref m_paths])), (m_steps, Sum.inl (y_steps, 400, Sum.inl f_steps)), (m_stair, Sum.inl (y_stair, 24, Sum.inl f_stair)), (m_low, Sum.inl (y_low, 100, Sum.inl f_low)), (m_crack, Sum.inl (y_crack, 100, Sum.inl f_crack)), (m_where, Sum.inl (y_where, 10, Sum.inl f_where)), (m_state, Sum.inl (y_state, 10, Sum.inl f_state)), (m_paths, Sum.inl (y_paths, 40, Sum.inl f_paths))] s.heap.size = A at hD hX ⊢
  have hA : ∀ q : Nat, s.heap.size ≤ q → A q := fun q h => by rw [← hAe]; exact Or.inr h
  have hS : va_S A s.heap s.heap [] := va_S.rf
  have hl := lv_entry ([Value.ref h0]) (n := 3) (Nat.le_of_ble_eq_true rfl)
  rw [lg_entry_eq]
  generalize (lg_sl ([Value.ref h0]) ++ List.replicate (3 - (lg_sl ([Value.ref h0])).length) Slot.unset).toArray = ls at hl ⊢
  have hl : lv_has ls 3 [(0, Value.ref h0)] := hl
  have hP : va_P D vwCl [(h0, Sum.inr (9, [Value.ref m_tape, Value.int (nI ln), Value.int s_thrown, Value.ref m_rule, Value.ref m_rules, Value.int (nI sn), Value.ref m_stair, Value.int s_readStairs, Value.int s_fault, Value.int s_faultPlace, Value.int (nI w), Value.int (nI h), Value.ref m_low, Value.ref m_high, Value.ref m_crack, Value.int (nI bc), Value.ref m_weight, Value.ref m_fire, Value.ref m_crowd, Value.ref m_state, Value.ref m_where, Value.int s_hours, Value.int s_fees, Value.int s_looks, Value.ref m_words, Value.int s_end, Value.int s_next, Value.int s_kind, Value.int s_which, Value.int s_place, Value.int s_read, Value.ref m_told, Value.ref m_breaks, Value.ref m_row, Value.ref m_tried, Value.ref m_steps, Value.ref m_paths])), (m_steps, Sum.inl (y_steps, 400, Sum.inl f_steps)), (m_stair, Sum.inl (y_stair, 24, Sum.inl f_stair)), (m_low, Sum.inl (y_low, 100, Sum.inl f_low)), (m_crack, Sum.inl (y_crack, 100, Sum.inl f_crack)), (m_where, Sum.inl (y_where, 10, Sum.inl f_where)), (m_state, Sum.inl (y_state, 10, Sum.inl f_state)), (m_paths, Sum.inl (y_paths, 40, Sum.inl f_paths))] s.heap := hP
  refine lv_aload_n hx hb dX10_pathAll_0 rfl (lv_at hl 0 rfl) ?_
  refine mc_Vv (rest := []) (wr := [(m_where, Sum.inl (y_where, 10, Sum.inl f_where)), (m_state, Sum.inl (y_state, 10, Sum.inl f_state)), (m_paths, Sum.inl (y_paths, 40, Sum.inl f_paths))]) F hK hP hD hS hA (n_walks l D h0 m_tape ln s_thrown m_rule m_rules sn m_stair s_readStairs s_fault s_faultPlace w h m_low m_high m_crack bc m_weight m_fire m_crowd m_state m_where s_hours s_fees s_looks m_words s_end s_next s_kind s_which s_place s_read m_told m_breaks m_row m_tried m_steps m_paths y_steps f_steps y_stair f_stair y_low f_low y_crack f_crack (by omega) hst (by omega) (by omega)) ⟨gk_X10_202.1, gk_X10_202.2, Nat.le_of_ble_eq_true rfl, Nat.le_of_ble_eq_true rfl⟩ [0, 1, 2, 3, 4] [5, 6, 7] [0, 1, 2, 3] ⟨rfl, rfl, rfl, rfl, by decide⟩ rfl xT_move (fun _ _ _ => trivial) 0 rfl rfl rfl hl.1 rfl (Nat.le_of_ble_eq_true rfl) dX10_pathAll_1 ⟨Nat.le_of_ble_eq_true rfl, Nat.le_of_ble_eq_true rfl⟩ (fun g_steps_1 H locs hw hK1 hP hD hS => ?_)
  have hP : va_P D vwCl [(m_where, Sum.inl (y_where, 10, Sum.inl f_where)), (m_state, Sum.inl (y_state, 10, Sum.inl f_state)), (m_paths, Sum.inl (y_paths, 40, Sum.inl f_paths)), (h0, Sum.inr (9, [Value.ref m_tape, Value.int (nI ln), Value.int s_thrown, Value.ref m_rule, Value.ref m_rules, Value.int (nI sn), Value.ref m_stair, Value.int s_readStairs, Value.int s_fault, Value.int s_faultPlace, Value.int (nI w), Value.int (nI h), Value.ref m_low, Value.ref m_high, Value.ref m_crack, Value.int (nI bc), Value.ref m_weight, Value.ref m_fire, Value.ref m_crowd, Value.ref m_state, Value.ref m_where, Value.int s_hours, Value.int s_fees, Value.int s_looks, Value.ref m_words, Value.int s_end, Value.int s_next, Value.int s_kind, Value.int s_which, Value.int s_place, Value.int s_read, Value.ref m_told, Value.ref m_breaks, Value.ref m_row, Value.ref m_tried, Value.ref m_steps, Value.ref m_paths])), (m_steps, Sum.inl (y_steps, 400, Sum.inl g_steps_1)), (m_stair, Sum.inl (y_stair, 24, Sum.inl f_stair)), (m_low, Sum.inl (y_low, 100, Sum.inl f_low)), (m_crack, Sum.inl (y_crack, 100, Sum.inl f_crack))] H := hP
  have hD : va_D A [(m_where, Sum.inl (y_where, 10, Sum.inl f_where)), (m_state, Sum.inl (y_state, 10, Sum.inl f_state)), (m_paths, Sum.inl (y_paths, 40, Sum.inl f_paths)), (h0, Sum.inr (9, [Value.ref m_tape, Value.int (nI ln), Value.int s_thrown, Value.ref m_rule, Value.ref m_rules, Value.int (nI sn), Value.ref m_stair, Value.int s_readStairs, Value.int s_fault, Value.int s_faultPlace, Value.int (nI w), Value.int (nI h), Value.ref m_low, Value.ref m_high, Value.ref m_crack, Value.int (nI bc), Value.ref m_weight, Value.ref m_fire, Value.ref m_crowd, Value.ref m_state, Value.ref m_where, Value.int s_hours, Value.int s_fees, Value.int s_looks, Value.ref m_words, Value.int s_end, Value.int s_next, Value.int s_kind, Value.int s_which, Value.int s_place, Value.int s_read, Value.ref m_told, Value.ref m_breaks, Value.ref m_row, Value.ref m_tried, Value.ref m_steps, Value.ref m_paths])), (m_steps, Sum.inl (y_steps, 400, Sum.inl g_steps_1)), (m_stair, Sum.inl (y_stair, 24, Sum.inl f_stair)), (m_low, Sum.inl (y_low, 100, Sum.inl f_low)), (m_crack, Sum.inl (y_crack, 100, Sum.inl f_crack))] := hD
  have hw_3 : rOK 10000 g_steps_1 400 := hw
  have hsp := hw_3
  refine lv_iconst (v := 0) hx hb dX10_pathAll_4 (by decide) ?_
  refine lv_istore_n (lv' := [(1, Value.int 0), (0, Value.ref h0)]) hx hb dX10_pathAll_5 rfl hl (by decide) rfl (fun ls hl => ?_)
  refine lp_n_path_b F hA h0 m_tape ln s_thrown m_rule m_rules sn m_stair s_readStairs s_fault s_faultPlace w h m_low m_high m_crack bc m_weight m_fire m_crowd m_state m_where s_hours s_fees s_looks m_words s_end s_next s_kind s_which s_place s_read m_told m_breaks m_row m_tried m_steps m_paths y_steps g_steps_1 y_stair f_stair y_low f_low y_crack f_crack y_where f_where y_state f_state y_paths (hK.sub [0, 1, 2, 3, 4, 5, 6] rfl) (fun gp_4  H locs hP hD hS ls hl => ?_) _ f_paths 0 (by omega) (by omega) (by omega) hst (by omega) (by omega) hsp (Nat.lt_succ_self _) _ _ (hP.sub [3, 4, 5, 6, 7, 0, 1, 2] rfl) (hD.sub [3, 4, 5, 6, 7, 0, 1, 2] (by decide) rfl) hS ls (lv_sub hl [1, 0] rfl)
  have hP9 := hP.sub (ws' := [(h0, Sum.inr (9, [Value.ref m_tape, Value.int (nI ln), Value.int s_thrown, Value.ref m_rule, Value.ref m_rules, Value.int (nI sn), Value.ref m_stair, Value.int s_readStairs, Value.int s_fault, Value.int s_faultPlace, Value.int (nI w), Value.int (nI h), Value.ref m_low, Value.ref m_high, Value.ref m_crack, Value.int (nI bc), Value.ref m_weight, Value.ref m_fire, Value.ref m_crowd, Value.ref m_state, Value.ref m_where, Value.int s_hours, Value.int s_fees, Value.int s_looks, Value.ref m_words, Value.int s_end, Value.int s_next, Value.int s_kind, Value.int s_which, Value.int s_place, Value.int s_read, Value.ref m_told, Value.ref m_breaks, Value.ref m_row, Value.ref m_tried, Value.ref m_steps, Value.ref m_paths])), (m_steps, Sum.inl (y_steps, 400, Sum.inl g_steps_1)), (m_stair, Sum.inl (y_stair, 24, Sum.inl f_stair)), (m_low, Sum.inl (y_low, 100, Sum.inl f_low)), (m_crack, Sum.inl (y_crack, 100, Sum.inl f_crack)), (m_where, Sum.inl (y_where, 10, Sum.inl f_where)), (m_state, Sum.inl (y_state, 10, Sum.inl f_state)), (m_paths, Sum.inl (y_paths, 40, Sum.inl gp_4))]) [0, 1, 2, 3, 4, 5, 6, 7] rfl
  have hD9 := hD.sub (ws' := [(h0, Sum.inr (9, [Value.ref m_tape, Value.int (nI ln), Value.int s_thrown, Value.ref m_rule, Value.ref m_rules, Value.int (nI sn), Value.ref m_stair, Value.int s_readStairs, Value.int s_fault, Value.int s_faultPlace, Value.int (nI w), Value.int (nI h), Value.ref m_low, Value.ref m_high, Value.ref m_crack, Value.int (nI bc), Value.ref m_weight, Value.ref m_fire, Value.ref m_crowd, Value.ref m_state, Value.ref m_where, Value.int s_hours, Value.int s_fees, Value.int s_looks, Value.ref m_words, Value.int s_end, Value.int s_next, Value.int s_kind, Value.int s_which, Value.int s_place, Value.int s_read, Value.ref m_told, Value.ref m_breaks, Value.ref m_row, Value.ref m_tried, Value.ref m_steps, Value.ref m_paths])), (m_steps, Sum.inl (y_steps, 400, Sum.inl g_steps_1)), (m_stair, Sum.inl (y_stair, 24, Sum.inl f_stair)), (m_low, Sum.inl (y_low, 100, Sum.inl f_low)), (m_crack, Sum.inl (y_crack, 100, Sum.inl f_crack)), (m_where, Sum.inl (y_where, 10, Sum.inl f_where)), (m_state, Sum.inl (y_state, 10, Sum.inl f_state)), (m_paths, Sum.inl (y_paths, 40, Sum.inl gp_4))]) [0, 1, 2, 3, 4, 5, 6, 7] (by decide) rfl
  have hK9 := hK.sub (tys' := []) [] rfl
  refine W.widen (k := 0) (n := 0) (by decide) (by decide) ?_
  exact W.vret hx hb hr (fun t ht hW => ⟨⟨(g_steps_1, gp_4), rfl, trivial, by rw [ht]; exact hP9, va_K.moved hW.alike hK9, hD9⟩, hS.F ht⟩) hS.2.2 dX10_pathAll_62