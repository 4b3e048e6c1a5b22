set_option maxHeartbeats 4000000 in
set_option maxRecDepth 100000 in
theorem t_isStair (l : Launch) (D : va_G) (sp : Nat) (h0 : Nat) (m_tape : Nat) (ln : Nat) (s_thrown : Int32) (m_rule : Nat) (m_rules : Nat) (sn : Nat) (m_stair : Nat) (s_readStairs : Int32) (s_fault : Int32) (s_faultPlace : Int32) (w : Nat) (h : Nat) (m_low : Nat) (m_high : Nat) (m_crack : Nat) (bc : Nat) (m_weight : Nat) (m_fire : Nat) (m_crowd : Nat) (m_state : Nat) (m_where : Nat) (s_hours : Int32) (s_fees : Int32) (s_looks : Int32) (m_words : Nat) (s_end : Int32) (s_next : Int32) (s_kind : Int32) (s_which : Int32) (s_place : Int32) (s_read : Int32) (m_told : Nat) (m_breaks : Nat) (m_row : Nat) (m_tried : Nat) (m_steps : Nat) (m_paths : Nat) (y_stair : ClassId) (f_stair : Nat → Int32) (y_low : ClassId) (f_low : Nat → Int32) (y_crack : ClassId) (f_crack : Nat → Int32) (si : Nat) (hsi : si < 4) (h3 : w ≤ 10) (h4 : h ≤ 10) (hsm1 : f_stair (2 * si) = nI sp ∧ sp < 100) : cI l yX10_isStair (.code yX10_isStair cX10_isStair 2 (some .boolean)) ({ frames := 1, cells := 0, slots := 0, locals := 22 }) D [(y_stair, .int), (y_low, .int), (y_crack, .boolean)] [(h0, Sum.inr (9, [Value.ref m_tape, Value.int (nI ln), Value.int s_thrown, Value.ref m_rule, Value.ref m_rules, Value.int (nI sn), Value.ref m_stair, Value.int s_readStairs, Value.int s_fault, Value.int s_faultPlace, Value.int (nI w), Value.int (nI h), Value.ref m_low, Value.ref m_high, Value.ref m_crack, Value.int (nI bc), Value.ref m_weight, Value.ref m_fire, Value.ref m_crowd, Value.ref m_state, Value.ref m_where, Value.int s_hours, Value.int s_fees, Value.int s_looks, Value.ref m_words, Value.int s_end, Value.int s_next, Value.int s_kind, Value.int s_which, Value.int s_place, Value.int s_read, Value.ref m_told, Value.ref m_breaks, Value.ref m_row, Value.ref m_tried, Value.ref m_steps, Value.ref m_paths])), (m_stair, Sum.inl (y_stair, 24, Sum.inl f_stair)), (m_low, Sum.inl (y_low, 100, Sum.inl f_low)), (m_crack, Sum.inl (y_crack, 100, Sum.inl f_crack))] xT [Value.ref h0, Value.int (nI si)] (S := Unit) (fun r _ => (r = 1 ∧ fm w h f_low f_crack sp) ∨ (r = 0 ∧ ¬ fm w h f_low f_crack sp)) (fun _ => []) (fun _ => [(h0, Sum.inr (9, [Value.ref m_tape, Value.int (nI ln), Value.int s_thrown, Value.ref m_rule, Value.ref m_rules, Value.int (nI sn), Value.ref m_stair, Value.int s_readStairs, Value.int s_fault, Value.int s_faultPlace, Value.int (nI w), Value.int (nI h), Value.ref m_low, Value.ref m_high, Value.ref m_crack, Value.int (nI bc), Value.ref m_weight, Value.ref m_fire, Value.ref m_crowd, Value.ref m_state, Value.ref m_where, Value.int s_hours, Value.int s_fees, Value.int s_looks, Value.ref m_words, Value.int s_end, Value.int s_next, Value.int s_kind, Value.int s_which, Value.int s_place, Value.int s_read, Value.ref m_told, Value.ref m_breaks, Value.ref m_row, Value.ref m_tried, Value.ref m_steps, Value.ref m_paths])), (m_stair, Sum.inl (y_stair, 24, Sum.inl f_stair)), (m_low, Sum.inl (y_low, 100, Sum.inl f_low)), (m_crack, Sum.inl (y_crack, 100, Sum.inl f_crack))]) := by
  intro sz
  refine Met.ofW (cc := cX10_isStair) (maxL := 2) (ret := (some .boolean)) (by decide) rfl ?_
  intro p e s m args below meth c s₁ B hml hv
  obtain ⟨rfl, hsz, hP, hK, hD0, hX⟩ := hv
  have hx := B.exec
  have hb := B.bytes
  have hr := B.returns
  have hts0 := atoms_spec (ws := .code yX10_isStair cX10_isStair 2 (some .boolean) :: gw) B.pre
  have hts := fun (w : Cond) (h : w ∈ gw) => hts0 w (List.mem_cons_of_mem _ h)
  have hown : s.vm.findClass RX10 = some m.cls := findClass_of_methodNamed B.named
  have hlocks := B.notSynchronized
  have F : mFix p s m _ c cX10_isStair 2 RX10 := ⟨hx, hb, hml, hown, hts⟩
  subst hsz
  have hD := hD0.self (sz := s.heap.size)
  generalize hAe : va_A [(h0, Sum.inr (9, [Value.ref m_tape, Value.int (nI ln), Value.int s_thrown, Value.ref m_rule, Value.ref m_rules, Value.int (nI sn), Value.ref m_stair, Value.int s_readStairs, Value.int s_fault, Value.int s_faultPlace, Value.int (nI w), Value.int (nI h), Value.ref m_low, Value.ref m_high, Value.ref m_crack, Value.int (nI bc), Value.ref m_weight, Value.ref m_fire, Value.ref m_crowd, Value.ref m_state, Value.ref m_where, Value.int s_hours, Value.int s_fees, Value.int s_looks, Value.ref m_words, Value.int s_end, Value.int s_next, Value.int s_kind, Value.int s_which, Value.int s_place, Value.int s_read, Value.ref m_told, Value.ref m_breaks, Value.ref m_row, Value.ref m_tried, Value.ref m_steps, Value.ref m_paths])), (m_stair, Sum.inl (y_stair, 24, Sum.inl f_stair)), (m_low, Sum.inl (y_low, 100, Sum.inl f_low)), (m_crack, Sum.inl (y_crack, 100, Sum.inl f_crack))] s.heap.size = A at hD hX ⊢
  have hA : ∀ q : Nat, s.heap.size ≤ q → A q := fun q h => by rw [← hAe]; exact Or.inr h
  have hS : va_S A s.heap s.heap [] := va_S.rf
  have hl := lv_entry ([Value.ref h0, Value.int (nI si)]) (n := 2) (Nat.le_of_ble_eq_true rfl)
  rw [lg_entry_eq]
  generalize (lg_sl ([Value.ref h0, Value.int (nI si)]) ++ List.replicate (2 - (lg_sl ([Value.ref h0, Value.int (nI si)])).length) Slot.unset).toArray = ls at hl ⊢
  have hl : lv_has ls 2 [(0, Value.ref h0), (1, Value.int (nI si))] := hl
  have hP : va_P D vwCl [(h0, Sum.inr (9, [Value.ref m_tape, Value.int (nI ln), Value.int s_thrown, Value.ref m_rule, Value.ref m_rules, Value.int (nI sn), Value.ref m_stair, Value.int s_readStairs, Value.int s_fault, Value.int s_faultPlace, Value.int (nI w), Value.int (nI h), Value.ref m_low, Value.ref m_high, Value.ref m_crack, Value.int (nI bc), Value.ref m_weight, Value.ref m_fire, Value.ref m_crowd, Value.ref m_state, Value.ref m_where, Value.int s_hours, Value.int s_fees, Value.int s_looks, Value.ref m_words, Value.int s_end, Value.int s_next, Value.int s_kind, Value.int s_which, Value.int s_place, Value.int s_read, Value.ref m_told, Value.ref m_breaks, Value.ref m_row, Value.ref m_tried, Value.ref m_steps, Value.ref m_paths])), (m_stair, Sum.inl (y_stair, 24, Sum.inl f_stair)), (m_low, Sum.inl (y_low, 100, Sum.inl f_low)), (m_crack, Sum.inl (y_crack, 100, Sum.inl f_crack))] s.heap := hP
  refine lv_aload_n hx hb dX10_isStair_0 rfl (lv_at hl 0 rfl) ?_
  refine lv_aload_n hx hb dX10_isStair_1 rfl (lv_at hl 0 rfl) ?_
  refine va_get (D := D) (ci := 9) (v := Value.ref m_stair) (C := RX10) (T := TX10) (N := 37) hx hb hts inG_X10 hown hK hP 0 rfl rfl 6 (by decide) (hts _ kw_4_201) (fun _ h9 => h9) rfl dX10_isStair_2 ?_
  refine lv_iconst (v := 2) hx hb dX10_isStair_5 (by decide) ?_
  refine lv_iload_n hx hb dX10_isStair_6 rfl (lv_at hl 1 rfl) ?_
  refine lv_imul hx hb dX10_isStair_7 ?_
  refine lv_topi (fun z_1 ez_1 => ?_)
  obtain rfl : z_1 = nI (2 * si) := ez_1.trans (pk_mul 2 si)
  refine m_iald hx hb hK hP 1 0 rfl rfl (2 * si) rfl (by omega) (by decide) dX10_isStair_8 ?_
  refine lv_topi (fun v_2 ev_2 => ?_)
  obtain rfl : v_2 = nI (sp) := ev_2.trans hsm1.1
  refine lv_bipush (v := 10) hx hb dX10_isStair_9 (by decide) ?_
  refine lv_irem hx hb dX10_isStair_11 (by decide) ?_
  refine lv_topi (fun z_3 ez_3 => ?_)
  obtain rfl : z_3 = nI (sp % 10) := ez_3.trans (pk_rem (a := sp) (d := 10) (by omega) (by decide) (by decide))
  refine lv_aload_n hx hb dX10_isStair_12 rfl (lv_at hl 0 rfl) ?_
  refine va_get (D := D) (ci := 9) (v := Value.ref m_stair) (C := RX10) (T := TX10) (N := 37) hx hb hts inG_X10 hown hK hP 0 rfl rfl 6 (by decide) (hts _ kw_4_201) (fun _ h9 => h9) rfl dX10_isStair_13 ?_
  refine lv_iconst (v := 2) hx hb dX10_isStair_16 (by decide) ?_
  refine lv_iload_n hx hb dX10_isStair_17 rfl (lv_at hl 1 rfl) ?_
  refine lv_imul hx hb dX10_isStair_18 ?_
  refine lv_topi (fun z_4 ez_4 => ?_)
  obtain rfl : z_4 = nI (2 * si) := ez_4.trans (pk_mul 2 si)
  refine m_iald hx hb hK hP 1 0 rfl rfl (2 * si) rfl (by omega) (by decide) dX10_isStair_19 ?_
  refine lv_topi (fun v_5 ev_5 => ?_)
  obtain rfl : v_5 = nI (sp) := ev_5.trans hsm1.1
  refine lv_bipush (v := 10) hx hb dX10_isStair_20 (by decide) ?_
  refine lv_idiv hx hb dX10_isStair_22 (by decide) ?_
  refine lv_topi (fun z_6 ez_6 => ?_)
  obtain rfl : z_6 = nI (sp / 10) := ez_6.trans (pk_div (a := sp) (d := 10) (by omega) (by decide) (by decide))
  refine mc_Vi (rest := []) (wr := [(m_stair, Sum.inl (y_stair, 24, Sum.inl f_stair)), (m_low, Sum.inl (y_low, 100, Sum.inl f_low)), (m_crack, Sum.inl (y_crack, 100, Sum.inl f_crack))]) F hK hP hD hS hA (n_isCell l D h0 m_tape ln s_thrown m_rule m_rules sn m_stair s_readStairs s_fault s_faultPlace w h m_low m_high m_crack bc m_weight m_fire m_crowd m_state m_where s_hours s_fees s_looks m_words s_end s_next s_kind s_which s_place s_read m_told m_breaks m_row m_tried m_steps m_paths (nI (sp % 10)) (nI (sp / 10)) (by omega) (by omega)) ⟨gk_X10_155.1, gk_X10_155.2, Nat.le_of_ble_eq_true rfl, Nat.le_of_ble_eq_true rfl⟩ [0] [1, 2, 3] [] ⟨rfl, rfl, rfl, rfl, by decide⟩ rfl xT_move (fun _ _ _ => trivial) 0 rfl rfl rfl hl.1 rfl (Nat.le_of_ble_eq_true rfl) dX10_isStair_23 ⟨Nat.le_of_ble_eq_true rfl, Nat.le_of_ble_eq_true rfl⟩ (fun r_7 _ H locs hw hK1 hP hD hS => ?_)
  have hP : va_P D vwCl [(m_stair, Sum.inl (y_stair, 24, Sum.inl f_stair)), (m_low, Sum.inl (y_low, 100, Sum.inl f_low)), (m_crack, Sum.inl (y_crack, 100, Sum.inl f_crack)), (h0, Sum.inr (9, [Value.ref m_tape, Value.int (nI ln), Value.int s_thrown, Value.ref m_rule, Value.ref m_rules, Value.int (nI sn), Value.ref m_stair, Value.int s_readStairs, Value.int s_fault, Value.int s_faultPlace, Value.int (nI w), Value.int (nI h), Value.ref m_low, Value.ref m_high, Value.ref m_crack, Value.int (nI bc), Value.ref m_weight, Value.ref m_fire, Value.ref m_crowd, Value.ref m_state, Value.ref m_where, Value.int s_hours, Value.int s_fees, Value.int s_looks, Value.ref m_words, Value.int s_end, Value.int s_next, Value.int s_kind, Value.int s_which, Value.int s_place, Value.int s_read, Value.ref m_told, Value.ref m_breaks, Value.ref m_row, Value.ref m_tried, Value.ref m_steps, Value.ref m_paths]))] H := hP
  have hD : va_D A [(m_stair, Sum.inl (y_stair, 24, Sum.inl f_stair)), (m_low, Sum.inl (y_low, 100, Sum.inl f_low)), (m_crack, Sum.inl (y_crack, 100, Sum.inl f_crack)), (h0, Sum.inr (9, [Value.ref m_tape, Value.int (nI ln), Value.int s_thrown, Value.ref m_rule, Value.ref m_rules, Value.int (nI sn), Value.ref m_stair, Value.int s_readStairs, Value.int s_fault, Value.int s_faultPlace, Value.int (nI w), Value.int (nI h), Value.ref m_low, Value.ref m_high, Value.ref m_crack, Value.int (nI bc), Value.ref m_weight, Value.ref m_fire, Value.ref m_crowd, Value.ref m_state, Value.ref m_where, Value.int s_hours, Value.int s_fees, Value.int s_looks, Value.ref m_words, Value.int s_end, Value.int s_next, Value.int s_kind, Value.int s_which, Value.int s_place, Value.int s_read, Value.ref m_told, Value.ref m_breaks, Value.ref m_row, Value.ref m_tried, Value.ref m_steps, Value.ref m_paths]))] := hD
  have hw_8 : r_7 = (if ((nI (sp % 10)) < 0 ∨ ¬ (nI (sp % 10)) < nI w ∨ (nI (sp / 10)) < 0 ∨ ¬ (nI (sp / 10)) < nI h) then 0 else 1) := hw
  by_cases hgr : sp % 10 < w ∧ sp / 10 < h
  · skip
    obtain rfl : r_7 = 1 := by rw [hw_8, if_neg (out_in hgr.1 hgr.2 (by omega) (by omega))]
    refine lv_if_eq (tgt := 48) hx hb dX10_isStair_26 (by decide) (fun c_9 => absurd c_9 (by decide)) (fun c_9 => ?_)
    refine lv_aload_n hx hb dX10_isStair_29 rfl (lv_at hl 0 rfl) ?_
    refine lv_aload_n hx hb dX10_isStair_30 rfl (lv_at hl 0 rfl) ?_
    refine va_get (D := D) (ci := 9) (v := Value.ref m_stair) (C := RX10) (T := TX10) (N := 37) hx hb hts inG_X10 hown hK hP 3 rfl rfl 6 (by decide) (hts _ kw_4_201) (fun _ h9 => h9) rfl dX10_isStair_31 ?_
    refine lv_iconst (v := 2) hx hb dX10_isStair_34 (by decide) ?_
    refine lv_iload_n hx hb dX10_isStair_35 rfl (lv_at hl 1 rfl) ?_
    refine lv_imul hx hb dX10_isStair_36 ?_
    refine lv_topi (fun z_10 ez_10 => ?_)
    obtain rfl : z_10 = nI (2 * si) := ez_10.trans (pk_mul 2 si)
    refine m_iald hx hb hK hP 0 0 rfl rfl (2 * si) rfl (by omega) (by decide) dX10_isStair_37 ?_
    refine lv_topi (fun v_11 ev_11 => ?_)
    obtain rfl : v_11 = nI (sp) := ev_11.trans hsm1.1
    refine mc_Vi (rest := []) (wr := [(m_stair, Sum.inl (y_stair, 24, Sum.inl f_stair))]) F hK hP hD hS hA (t_isOpen l D h0 m_tape ln s_thrown m_rule m_rules sn m_stair s_readStairs s_fault s_faultPlace w h m_low m_high m_crack bc m_weight m_fire m_crowd m_state m_where s_hours s_fees s_looks m_words s_end s_next s_kind s_which s_place s_read m_told m_breaks m_row m_tried m_steps m_paths y_low f_low y_crack f_crack sp (by omega)) ⟨gk_X10_174.1, gk_X10_174.2, Nat.le_of_ble_eq_true rfl, Nat.le_of_ble_eq_true rfl⟩ [3, 1, 2] [0] [1, 2] ⟨rfl, rfl, rfl, rfl, by decide⟩ rfl xT_move (fun _ _ _ => trivial) 3 rfl rfl rfl hl.1 rfl (Nat.le_of_ble_eq_true rfl) dX10_isStair_38 ⟨Nat.le_of_ble_eq_true rfl, Nat.le_of_ble_eq_true rfl⟩ (fun r_12 _ H locs hw hK1 hP hD hS => ?_)
    have hP : va_P D vwCl [(m_stair, Sum.inl (y_stair, 24, Sum.inl f_stair)), (h0, Sum.inr (9, [Value.ref m_tape, Value.int (nI ln), Value.int s_thrown, Value.ref m_rule, Value.ref m_rules, Value.int (nI sn), Value.ref m_stair, Value.int s_readStairs, Value.int s_fault, Value.int s_faultPlace, Value.int (nI w), Value.int (nI h), Value.ref m_low, Value.ref m_high, Value.ref m_crack, Value.int (nI bc), Value.ref m_weight, Value.ref m_fire, Value.ref m_crowd, Value.ref m_state, Value.ref m_where, Value.int s_hours, Value.int s_fees, Value.int s_looks, Value.ref m_words, Value.int s_end, Value.int s_next, Value.int s_kind, Value.int s_which, Value.int s_place, Value.int s_read, Value.ref m_told, Value.ref m_breaks, Value.ref m_row, Value.ref m_tried, Value.ref m_steps, Value.ref m_paths])), (m_low, Sum.inl (y_low, 100, Sum.inl f_low)), (m_crack, Sum.inl (y_crack, 100, Sum.inl f_crack))] H := hP
    have hD : va_D A [(m_stair, Sum.inl (y_stair, 24, Sum.inl f_stair)), (h0, Sum.inr (9, [Value.ref m_tape, Value.int (nI ln), Value.int s_thrown, Value.ref m_rule, Value.ref m_rules, Value.int (nI sn), Value.ref m_stair, Value.int s_readStairs, Value.int s_fault, Value.int s_faultPlace, Value.int (nI w), Value.int (nI h), Value.ref m_low, Value.ref m_high, Value.ref m_crack, Value.int (nI bc), Value.ref m_weight, Value.ref m_fire, Value.ref m_crowd, Value.ref m_state, Value.ref m_where, Value.int s_hours, Value.int s_fees, Value.int s_looks, Value.ref m_words, Value.int s_end, Value.int s_next, Value.int s_kind, Value.int s_which, Value.int s_place, Value.int s_read, Value.ref m_told, Value.ref m_breaks, Value.ref m_row, Value.ref m_tried, Value.ref m_steps, Value.ref m_paths])), (m_low, Sum.inl (y_low, 100, Sum.inl f_low)), (m_crack, Sum.inl (y_crack, 100, Sum.inl f_crack))] := hD
    have hw_13 : (r_12 = 1 ∧ (0 < f_low sp ∧ f_crack sp = 0)) ∨ (r_12 = 0 ∧ ¬ (0 < f_low sp ∧ f_crack sp = 0)) := hw
    rcases hw_13 with ⟨hr9, op_14⟩ | ⟨hr9, op_14⟩
    · skip
      subst hr9
      refine lv_if_eq (tgt := 48) hx hb dX10_isStair_41 (by decide) (fun c_15 => absurd c_15 (by decide)) (fun c_15 => ?_)
      refine lv_iconst (v := 1) hx hb dX10_isStair_44 (by decide) ?_
      refine lv_goto (tgt := 49) hx hb dX10_isStair_45 (by decide) ?_
      have hP9 := hP.sub (ws' := [(h0, Sum.inr (9, [Value.ref m_tape, Value.int (nI ln), Value.int s_thrown, Value.ref m_rule, Value.ref m_rules, Value.int (nI sn), Value.ref m_stair, Value.int s_readStairs, Value.int s_fault, Value.int s_faultPlace, Value.int (nI w), Value.int (nI h), Value.ref m_low, Value.ref m_high, Value.ref m_crack, Value.int (nI bc), Value.ref m_weight, Value.ref m_fire, Value.ref m_crowd, Value.ref m_state, Value.ref m_where, Value.int s_hours, Value.int s_fees, Value.int s_looks, Value.ref m_words, Value.int s_end, Value.int s_next, Value.int s_kind, Value.int s_which, Value.int s_place, Value.int s_read, Value.ref m_told, Value.ref m_breaks, Value.ref m_row, Value.ref m_tried, Value.ref m_steps, Value.ref m_paths])), (m_stair, Sum.inl (y_stair, 24, Sum.inl f_stair)), (m_low, Sum.inl (y_low, 100, Sum.inl f_low)), (m_crack, Sum.inl (y_crack, 100, Sum.inl f_crack))]) [1, 0, 2, 3] rfl
      have hD9 := hD.sub (ws' := [(h0, Sum.inr (9, [Value.ref m_tape, Value.int (nI ln), Value.int s_thrown, Value.ref m_rule, Value.ref m_rules, Value.int (nI sn), Value.ref m_stair, Value.int s_readStairs, Value.int s_fault, Value.int s_faultPlace, Value.int (nI w), Value.int (nI h), Value.ref m_low, Value.ref m_high, Value.ref m_crack, Value.int (nI bc), Value.ref m_weight, Value.ref m_fire, Value.ref m_crowd, Value.ref m_state, Value.ref m_where, Value.int s_hours, Value.int s_fees, Value.int s_looks, Value.ref m_words, Value.int s_end, Value.int s_next, Value.int s_kind, Value.int s_which, Value.int s_place, Value.int s_read, Value.ref m_told, Value.ref m_breaks, Value.ref m_row, Value.ref m_tried, Value.ref m_steps, Value.ref m_paths])), (m_stair, Sum.inl (y_stair, 24, Sum.inl f_stair)), (m_low, Sum.inl (y_low, 100, Sum.inl f_low)), (m_crack, Sum.inl (y_crack, 100, Sum.inl f_crack))]) [1, 0, 2, 3] (by decide) rfl
      have hK9 := hK.sub (tys' := []) [] rfl
      refine W.widen (k := 0) (n := 0) (by decide) (by decide) ?_
      exact W.zret (v := 1) hx hb hr rfl (fun t ht hW => ⟨⟨1, (), rfl, Or.inl ⟨rfl, hgr.1, hgr.2, op_14.1, op_14.2⟩, by rw [ht]; exact hP9, va_K.moved hW.alike hK9, hD9⟩, hS.F ht⟩) hS.2.2 dX10_isStair_49
    · skip
      subst hr9
      refine lv_if_eq (tgt := 48) hx hb dX10_isStair_41 (by decide) (fun c_16 => ?_) (fun c_16 => absurd c_16 (by decide))
      refine lv_iconst (v := 0) hx hb dX10_isStair_48 (by decide) ?_
      have hP9 := hP.sub (ws' := [(h0, Sum.inr (9, [Value.ref m_tape, Value.int (nI ln), Value.int s_thrown, Value.ref m_rule, Value.ref m_rules, Value.int (nI sn), Value.ref m_stair, Value.int s_readStairs, Value.int s_fault, Value.int s_faultPlace, Value.int (nI w), Value.int (nI h), Value.ref m_low, Value.ref m_high, Value.ref m_crack, Value.int (nI bc), Value.ref m_weight, Value.ref m_fire, Value.ref m_crowd, Value.ref m_state, Value.ref m_where, Value.int s_hours, Value.int s_fees, Value.int s_looks, Value.ref m_words, Value.int s_end, Value.int s_next, Value.int s_kind, Value.int s_which, Value.int s_place, Value.int s_read, Value.ref m_told, Value.ref m_breaks, Value.ref m_row, Value.ref m_tried, Value.ref m_steps, Value.ref m_paths])), (m_stair, Sum.inl (y_stair, 24, Sum.inl f_stair)), (m_low, Sum.inl (y_low, 100, Sum.inl f_low)), (m_crack, Sum.inl (y_crack, 100, Sum.inl f_crack))]) [1, 0, 2, 3] rfl
      have hD9 := hD.sub (ws' := [(h0, Sum.inr (9, [Value.ref m_tape, Value.int (nI ln), Value.int s_thrown, Value.ref m_rule, Value.ref m_rules, Value.int (nI sn), Value.ref m_stair, Value.int s_readStairs, Value.int s_fault, Value.int s_faultPlace, Value.int (nI w), Value.int (nI h), Value.ref m_low, Value.ref m_high, Value.ref m_crack, Value.int (nI bc), Value.ref m_weight, Value.ref m_fire, Value.ref m_crowd, Value.ref m_state, Value.ref m_where, Value.int s_hours, Value.int s_fees, Value.int s_looks, Value.ref m_words, Value.int s_end, Value.int s_next, Value.int s_kind, Value.int s_which, Value.int s_place, Value.int s_read, Value.ref m_told, Value.ref m_breaks, Value.ref m_row, Value.ref m_tried, Value.ref m_steps, Value.ref m_paths])), (m_stair, Sum.inl (y_stair, 24, Sum.inl f_stair)), (m_low, Sum.inl (y_low, 100, Sum.inl f_low)), (m_crack, Sum.inl (y_crack, 100, Sum.inl f_crack))]) [1, 0, 2, 3] (by decide) rfl
      have hK9 := hK.sub (tys' := []) [] rfl
      refine W.widen (k := 0) (n := 0) (by decide) (by decide) ?_
      exact W.zret (v := 0) hx hb hr rfl (fun t ht hW => ⟨⟨0, (), rfl, Or.inr ⟨rfl, fun q => op_14 ⟨q.2.2.1, q.2.2.2⟩⟩, by rw [ht]; exact hP9, va_K.moved hW.alike hK9, hD9⟩, hS.F ht⟩) hS.2.2 dX10_isStair_49
  · skip
    obtain rfl : r_7 = 0 := by rw [hw_8, if_pos (out_of (by omega) (by omega) (by omega) (by omega) hgr)]
    refine lv_if_eq (tgt := 48) hx hb dX10_isStair_26 (by decide) (fun c_17 => ?_) (fun c_17 => absurd c_17 (by decide))
    refine lv_iconst (v := 0) hx hb dX10_isStair_48 (by decide) ?_
    have hP9 := hP.sub (ws' := [(h0, Sum.inr (9, [Value.ref m_tape, Value.int (nI ln), Value.int s_thrown, Value.ref m_rule, Value.ref m_rules, Value.int (nI sn), Value.ref m_stair, Value.int s_readStairs, Value.int s_fault, Value.int s_faultPlace, Value.int (nI w), Value.int (nI h), Value.ref m_low, Value.ref m_high, Value.ref m_crack, Value.int (nI bc), Value.ref m_weight, Value.ref m_fire, Value.ref m_crowd, Value.ref m_state, Value.ref m_where, Value.int s_hours, Value.int s_fees, Value.int s_looks, Value.ref m_words, Value.int s_end, Value.int s_next, Value.int s_kind, Value.int s_which, Value.int s_place, Value.int s_read, Value.ref m_told, Value.ref m_breaks, Value.ref m_row, Value.ref m_tried, Value.ref m_steps, Value.ref m_paths])), (m_stair, Sum.inl (y_stair, 24, Sum.inl f_stair)), (m_low, Sum.inl (y_low, 100, Sum.inl f_low)), (m_crack, Sum.inl (y_crack, 100, Sum.inl f_crack))]) [3, 0, 1, 2] rfl
    have hD9 := hD.sub (ws' := [(h0, Sum.inr (9, [Value.ref m_tape, Value.int (nI ln), Value.int s_thrown, Value.ref m_rule, Value.ref m_rules, Value.int (nI sn), Value.ref m_stair, Value.int s_readStairs, Value.int s_fault, Value.int s_faultPlace, Value.int (nI w), Value.int (nI h), Value.ref m_low, Value.ref m_high, Value.ref m_crack, Value.int (nI bc), Value.ref m_weight, Value.ref m_fire, Value.ref m_crowd, Value.ref m_state, Value.ref m_where, Value.int s_hours, Value.int s_fees, Value.int s_looks, Value.ref m_words, Value.int s_end, Value.int s_next, Value.int s_kind, Value.int s_which, Value.int s_place, Value.int s_read, Value.ref m_told, Value.ref m_breaks, Value.ref m_row, Value.ref m_tried, Value.ref m_steps, Value.ref m_paths])), (m_stair, Sum.inl (y_stair, 24, Sum.inl f_stair)), (m_low, Sum.inl (y_low, 100, Sum.inl f_low)), (m_crack, Sum.inl (y_crack, 100, Sum.inl f_crack))]) [3, 0, 1, 2] (by decide) rfl
    have hK9 := hK.sub (tys' := []) [] rfl
    refine W.widen (k := 0) (n := 0) (by decide) (by decide) ?_
    exact W.zret (v := 0) hx hb hr rfl (fun t ht hW => ⟨⟨0, (), rfl, Or.inr ⟨rfl, fun q => hgr ⟨q.1, q.2.1⟩⟩, by rw [ht]; exact hP9, va_K.moved hW.alike hK9, hD9⟩, hS.F ht⟩) hS.2.2 dX10_isStair_49
set_option maxHeartbeats 4000000 in
set_option maxRecDepth 100000 in
theorem lp_t_beside {p : Program} {l : Launch} {e : Env} {s : State} {m : MethodId} {args : Array Value} {below : List Frame} {meth : Method} {c : Code} {Q : State → Prop} {A : Nat → Prop} {D : va_G} (F : mFix p s m args c cX10_beside 8 RX10) (hA : ∀ q, s.heap.size ≤ q → A q) (h0 : Nat) (m_tape : Nat) (ln : Nat) (s_thrown : Int32) (m_rule : Nat) (m_rules : Nat) (sn : Nat) (m_stair : Nat) (s_readStairs : Int32) (s_fault : Int32) (s_faultPlace : Int32) (w : Nat) (h : Nat) (m_low : Nat) (m_high : Nat) (m_crack : Nat) (bc : Nat) (m_weight : Nat) (m_fire : Nat) (m_crowd : Nat) (m_state : Nat) (m_where : Nat) (s_hours : Int32) (s_fees : Int32) (s_looks : Int32) (m_words : Nat) (s_end : Int32) (s_next : Int32) (s_kind : Int32) (s_which : Int32) (s_place : Int32) (s_read : Int32) (m_told : Nat) (m_breaks : Nat) (m_row : Nat) (m_tried : Nat) (m_steps : Nat) (m_paths : Nat) (y_steps : ClassId) (f_steps : Nat → Int32) (y_low : ClassId) (f_low : Nat → Int32) (y_crack : ClassId) (f_crack : Nat → Int32) (si : Nat) (ci : Nat) (cj : Nat) (hK : va_K D vwCl [(y_steps, .int), (y_low, .int), (y_crack, .boolean)] s)
    (kx_138 : ∀ (bq : Nat), (bsl (fm w h f_low f_crack) (gsN f_steps si) ci cj 4 bq) → ∀ (H : Heap) (locs : List Loc), va_P D vwCl [(h0, Sum.inr (9, [Value.ref m_tape, Value.int (nI ln), Value.int s_thrown, Value.ref m_rule, Value.ref m_rules, Value.int (nI sn), Value.ref m_stair, Value.int s_readStairs, Value.int s_fault, Value.int s_faultPlace, Value.int (nI w), Value.int (nI h), Value.ref m_low, Value.ref m_high, Value.ref m_crack, Value.int (nI bc), Value.ref m_weight, Value.ref m_fire, Value.ref m_crowd, Value.ref m_state, Value.ref m_where, Value.int s_hours, Value.int s_fees, Value.int s_looks, Value.ref m_words, Value.int s_end, Value.int s_next, Value.int s_kind, Value.int s_which, Value.int s_place, Value.int s_read, Value.ref m_told, Value.ref m_breaks, Value.ref m_row, Value.ref m_tried, Value.ref m_steps, Value.ref m_paths])), (m_steps, Sum.inl (y_steps, 400, Sum.inl f_steps)), (m_low, Sum.inl (y_low, 100, Sum.inl f_low)), (m_crack, Sum.inl (y_crack, 100, Sum.inl f_crack))] H → va_D A [(h0, Sum.inr (9, [Value.ref m_tape, Value.int (nI ln), Value.int s_thrown, Value.ref m_rule, Value.ref m_rules, Value.int (nI sn), Value.ref m_stair, Value.int s_readStairs, Value.int s_fault, Value.int s_faultPlace, Value.int (nI w), Value.int (nI h), Value.ref m_low, Value.ref m_high, Value.ref m_crack, Value.int (nI bc), Value.ref m_weight, Value.ref m_fire, Value.ref m_crowd, Value.ref m_state, Value.ref m_where, Value.int s_hours, Value.int s_fees, Value.int s_looks, Value.ref m_words, Value.int s_end, Value.int s_next, Value.int s_kind, Value.int s_which, Value.int s_place, Value.int s_read, Value.ref m_told, Value.ref m_breaks, Value.ref m_row, Value.ref m_tried, Value.ref m_steps, Value.ref m_paths])), (m_steps, Sum.inl (y_steps, 400, Sum.inl f_steps)), (m_low, Sum.inl (y_low, 100, Sum.inl f_low)), (m_crack, Sum.inl (y_crack, 100, Sum.inl f_crack))] → va_S A s.heap H locs → ∀ ls : Array Slot, lv_has ls 8 [(4, Value.int (nI bq))] → W p l e ({ frames := 1, cells := 0, slots := 0, locals := 22 }) s m args below meth c H locs 0 0 Q (F0 m 138 ls [])) :
    ∀ n : Nat, ∀ (bq : Nat) (kq : Nat), (kq ≤ 4) → (si < 4) → (rOK 10000 f_steps 400) → (w ≤ 10) → (h ≤ 10) → (ci < w) → (cj < h) → (bsl (fm w h f_low f_crack) (gsN f_steps si) ci cj kq bq) → (4 - kq) < n → ∀ (H : Heap) (locs : List Loc), va_P D vwCl [(h0, Sum.inr (9, [Value.ref m_tape, Value.int (nI ln), Value.int s_thrown, Value.ref m_rule, Value.ref m_rules, Value.int (nI sn), Value.ref m_stair, Value.int s_readStairs, Value.int s_fault, Value.int s_faultPlace, Value.int (nI w), Value.int (nI h), Value.ref m_low, Value.ref m_high, Value.ref m_crack, Value.int (nI bc), Value.ref m_weight, Value.ref m_fire, Value.ref m_crowd, Value.ref m_state, Value.ref m_where, Value.int s_hours, Value.int s_fees, Value.int s_looks, Value.ref m_words, Value.int s_end, Value.int s_next, Value.int s_kind, Value.int s_which, Value.int s_place, Value.int s_read, Value.ref m_told, Value.ref m_breaks, Value.ref m_row, Value.ref m_tried, Value.ref m_steps, Value.ref m_paths])), (m_steps, Sum.inl (y_steps, 400, Sum.inl f_steps)), (m_low, Sum.inl (y_low, 100, Sum.inl f_low)), (m_crack, Sum.inl (y_crack, 100, Sum.inl f_crack))] H → va_D A [(h0, Sum.inr (9, [Value.ref m_tape, Value.int (nI ln), Value.int s_thrown, Value.ref m_rule, Value.ref m_rules, Value.int (nI sn), Value.ref m_stair, Value.int s_readStairs, Value.int s_fault, Value.int s_faultPlace, Value.int (nI w), Value.int (nI h), Value.ref m_low, Value.ref m_high, Value.ref m_crack, Value.int (nI bc), Value.ref m_weight, Value.ref m_fire, Value.ref m_crowd, Value.ref m_state, Value.ref m_where, Value.int s_hours, Value.int s_fees, Value.int s_looks, Value.ref m_words, Value.int s_end, Value.int s_next, Value.int s_kind, Value.int s_which, Value.int s_place, Value.int s_read, Value.ref m_told, Value.ref m_breaks, Value.ref m_row, Value.ref m_tried, Value.ref m_steps, Value.ref m_paths])), (m_steps, Sum.inl (y_steps, 400, Sum.inl f_steps)), (m_low, Sum.inl (y_low, 100, Sum.inl f_low)), (m_crack, Sum.inl (y_crack, 100, Sum.inl f_crack))] → va_S A s.heap H locs → ∀ ls : Array Slot, lv_has ls 8 [(0, Value.ref h0), (1, Value.int (nI si)), (2, Value.int (nI ci)), (3, Value.int (nI cj)), (4, Value.int (nI bq)), (5, Value.int (nI kq))] → W p l e ({ frames := 1, cells := 0, slots := 0, locals := 22 }) s m args below meth c H locs 0 0 Q (F0 m 8 ls []) := by
  intro n
  induction n with
  | zero => intro bq kq hkq hsi hsp h3 h4 hci hcj hbs hn; exact absurd hn (Nat.not_lt_zero _)
  | succ n ih =>
    intro bq kq hkq hsi hsp h3 h4 hci hcj hbs hn H locs hP hD hS ls hl
    obtain ⟨hx, hb, hml, hown, hts⟩ := id F
    have hbq := hbs.1
    refine lv_iload hx hb dX10_beside_8 (lv_at hl 5 rfl) ?_
    refine lv_iconst (v := 4) hx hb dX10_beside_10 (by decide) ?_
    refine lv_icmp_ge (tgt := 138) hx hb dX10_beside_11 (by decide) (fun c_1 => ?_) (fun c_1 => ?_)
    · skip
      have c_1n : 4 ≤ kq := (nI_leI (by omega) (by omega)).mp c_1
      have c_1 := Int32.not_lt.mpr c_1
      exact kx_138 bq ((show kq = 4 by omega) ▸ hbs) H locs (hP.sub [0, 1, 2, 3] rfl) (hD.sub [0, 1, 2, 3] (by decide) rfl) hS ls (lv_sub hl [4] rfl)
    · skip
      have c_1n : kq < 4 := nb_le (by omega) (by omega) c_1
      have c_1 := Int32.not_le.mp c_1
      refine lv_iload_n hx hb dX10_beside_14 rfl (lv_at hl 2 rfl) ?_
      refine lv_iload hx hb dX10_beside_15 (lv_at hl 5 rfl) ?_
      refine lv_if_ne (tgt := 24) hx hb dX10_beside_17 (by decide) (fun c_2 => ?_) (fun c_2 => ?_)
      · skip
        have c_2n : ¬ kq = 0 := nb_eq (by omega) (by omega) c_2
        refine lv_iload hx hb dX10_beside_24 (lv_at hl 5 rfl) ?_
        refine lv_iconst (v := 1) hx hb dX10_beside_26 (by decide) ?_
        refine lv_icmp_ne (tgt := 34) hx hb dX10_beside_27 (by decide) (fun c_3 => ?_) (fun c_3 => ?_)
        · skip
          have c_3n : ¬ kq = 1 := nb_eq (by omega) (by omega) c_3
          refine lv_iconst (v := 0) hx hb dX10_beside_34 (by decide) ?_
          refine lv_iadd hx hb dX10_beside_35 ?_
          refine lv_topi (fun z_4 ez_4 => ?_)
          obtain rfl : z_4 = nI (ci + 0) := ez_4.trans (nI_add ci 0)
          refine lv_istore (lv' := [(6, Value.int (nI (ci + 0))), (0, Value.ref h0), (1, Value.int (nI si)), (2, Value.int (nI ci)), (3, Value.int (nI cj)), (4, Value.int (nI bq)), (5, Value.int (nI kq))]) hx hb dX10_beside_36 hl (by decide) rfl (fun ls hl => ?_)
          refine lv_iload_n hx hb dX10_beside_38 rfl (lv_at hl 4 rfl) ?_
          refine lv_iload hx hb dX10_beside_39 (lv_at hl 6 rfl) ?_
          refine lv_iconst (v := 2) hx hb dX10_beside_41 (by decide) ?_
          refine lv_icmp_ne (tgt := 49) hx hb dX10_beside_42 (by decide) (fun c_5 => ?_) (fun c_5 => ?_)
          · skip
            have c_5n : ¬ kq = 2 := nb_eq (by omega) (by omega) c_5
            refine lv_iload hx hb dX10_beside_49 (lv_at hl 6 rfl) ?_
            refine lv_iconst (v := 3) hx hb dX10_beside_51 (by decide) ?_
            refine lv_icmp_ne (tgt := 59) hx hb dX10_beside_52 (by decide) (fun c_6 => ?_) (fun c_6 => ?_)
            · skip
              have c_6n : ¬ kq = 3 := nb_eq (by omega) (by omega) c_6
              exfalso; omega
            · skip
              have c_6n : kq = 3 := (nI_eq (by omega) (by omega)).mp c_6
              refine lv_iconst (v := -1) hx hb dX10_beside_55 (by decide) ?_
              refine lv_goto (tgt := 60) hx hb dX10_beside_56 (by decide) ?_
              refine lv_iadd hx hb dX10_beside_60 ?_
              refine lv_topi (fun z_7 ez_7 => ?_)
              have hZz_7 : z_7.toInt = ((cj : Nat) : Int) + (-1 : Int) := by rw [ez_7]; exact z_add (nI_toInt (by omega)) (by decide) (by omega) (by omega)
              refine lv_istore (lv' := [(7, Value.int z_7), (6, Value.int (nI (ci + 0))), (0, Value.ref h0), (1, Value.int (nI si)), (2, Value.int (nI ci)), (3, Value.int (nI cj)), (4, Value.int (nI bq)), (5, Value.int (nI kq))]) hx hb dX10_beside_61 hl (by decide) rfl (fun ls hl => ?_)
              have hl6 := in_z (x := nI (ci + 0)) rfl (by omega)
              refine lv_aload_n hx hb dX10_beside_63 rfl (lv_at hl 2 rfl) ?_
              refine lv_iload hx hb dX10_beside_64 (lv_at hl 1 rfl) ?_
              refine lv_iload hx hb dX10_beside_66 (lv_at hl 0 rfl) ?_
              refine mc_Vi (rest := []) (wr := [(m_steps, Sum.inl (y_steps, 400, Sum.inl f_steps)), (m_low, Sum.inl (y_low, 100, Sum.inl f_low)), (m_crack, Sum.inl (y_crack, 100, Sum.inl f_crack))]) F hK hP hD hS hA (n_isCell l D h0 m_tape ln s_thrown m_rule m_rules sn m_stair s_readStairs s_fault s_faultPlace w h m_low m_high m_crack bc m_weight m_fire m_crowd m_state m_where s_hours s_fees s_looks m_words s_end s_next s_kind s_which s_place s_read m_told m_breaks m_row m_tried m_steps m_paths (nI (ci + 0)) z_7 (by omega) (by omega)) ⟨gk_X10_155.1, gk_X10_155.2, Nat.le_of_ble_eq_true rfl, Nat.le_of_ble_eq_true rfl⟩ [0] [1, 2, 3] [] ⟨rfl, rfl, rfl, rfl, by decide⟩ rfl xT_move (fun _ _ _ => trivial) 0 rfl rfl rfl hl.1 rfl (Nat.le_of_ble_eq_true rfl) dX10_beside_68 ⟨Nat.le_of_ble_eq_true rfl, Nat.le_of_ble_eq_true rfl⟩ (fun r_8 _ H locs hw hK1 hP hD hS => ?_)
              have hP : va_P D vwCl [(m_steps, Sum.inl (y_steps, 400, Sum.inl f_steps)), (m_low, Sum.inl (y_low, 100, Sum.inl f_low)), (m_crack, Sum.inl (y_crack, 100, Sum.inl f_crack)), (h0, Sum.inr (9, [Value.ref m_tape, Value.int (nI ln), Value.int s_thrown, Value.ref m_rule, Value.ref m_rules, Value.int (nI sn), Value.ref m_stair, Value.int s_readStairs, Value.int s_fault, Value.int s_faultPlace, Value.int (nI w), Value.int (nI h), Value.ref m_low, Value.ref m_high, Value.ref m_crack, Value.int (nI bc), Value.ref m_weight, Value.ref m_fire, Value.ref m_crowd, Value.ref m_state, Value.ref m_where, Value.int s_hours, Value.int s_fees, Value.int s_looks, Value.ref m_words, Value.int s_end, Value.int s_next, Value.int s_kind, Value.int s_which, Value.int s_place, Value.int s_read, Value.ref m_told, Value.ref m_breaks, Value.ref m_row, Value.ref m_tried, Value.ref m_steps, Value.ref m_paths]))] H := hP
              have hD : va_D A [(m_steps, Sum.inl (y_steps, 400, Sum.inl f_steps)), (m_low, Sum.inl (y_low, 100, Sum.inl f_low)), (m_crack, Sum.inl (y_crack, 100, Sum.inl f_crack)), (h0, Sum.inr (9, [Value.ref m_tape, Value.int (nI ln), Value.int s_thrown, Value.ref m_rule, Value.ref m_rules, Value.int (nI sn), Value.ref m_stair, Value.int s_readStairs, Value.int s_fault, Value.int s_faultPlace, Value.int (nI w), Value.int (nI h), Value.ref m_low, Value.ref m_high, Value.ref m_crack, Value.int (nI bc), Value.ref m_weight, Value.ref m_fire, Value.ref m_crowd, Value.ref m_state, Value.ref m_where, Value.int s_hours, Value.int s_fees, Value.int s_looks, Value.ref m_words, Value.int s_end, Value.int s_next, Value.int s_kind, Value.int s_which, Value.int s_place, Value.int s_read, Value.ref m_told, Value.ref m_breaks, Value.ref m_row, Value.ref m_tried, Value.ref m_steps, Value.ref m_paths]))] := hD
              have hw_9 : r_8 = (if ((nI (ci + 0)) < 0 ∨ ¬ (nI (ci + 0)) < nI w ∨ z_7 < 0 ∨ ¬ z_7 < nI h) then 0 else 1) := hw
              by_cases ho_10 : ((nI (ci + 0)) < 0 ∨ ¬ (nI (ci + 0)) < nI w ∨ z_7 < 0 ∨ ¬ z_7 < nI h)
              · skip
                obtain rfl : r_8 = 0 := by rw [hw_9, if_pos ho_10]
                have hzo := out_z (by omega) (by omega) ho_10
                refine lv_if_eq (tgt := 132) hx hb dX10_beside_71 (by decide) (fun c_11 => ?_) (fun c_11 => absurd c_11 (by decide))
                refine lv_iinc (v := nI (kq + 1)) (lv' := [(5, Value.int (nI (kq + 1))), (7, Value.int z_7), (6, Value.int (nI (ci + 0))), (0, Value.ref h0), (1, Value.int (nI si)), (2, Value.int (nI ci)), (3, Value.int (nI cj)), (4, Value.int (nI bq))]) hx hb dX10_beside_132 hl (k := 7) rfl (nI_add kq 1) (by decide) rfl (fun ls hl => ?_)
                refine lv_goto (tgt := 8) hx hb dX10_beside_135 (by decide) ?_
                exact ih bq (kq + 1) (by omega) (by omega) hsp (by omega) (by omega) (by omega) (by omega) (bsl_n hbs (fun d f q => absurd (show False by have f1 := f.1; have f2 := f.2.1; unfold nbk at q; omega) id)) (by omega) H locs (hP.sub [3, 0, 1, 2] rfl) (hD.sub [3, 0, 1, 2] (by decide) rfl) hS ls (lv_sub hl [3, 4, 5, 6, 7, 0] rfl)
              · skip
                obtain rfl : r_8 = 1 := by rw [hw_9, if_neg ho_10]
                obtain ⟨i_12, hi_12, ei_12⟩ : ∃ j : Nat, j < w ∧ (nI (ci + 0)) = nI j := n_lt (fun q => ho_10 (Or.inl q)) (fun q => ho_10 (Or.inr (Or.inl (Int32.not_lt.mpr q)))) (by omega)
                obtain ⟨j_13, hj_13, ej_13⟩ : ∃ j : Nat, j < h ∧ z_7 = nI j := n_lt (fun q => ho_10 (Or.inr (Or.inr (Or.inl q)))) (fun q => ho_10 (Or.inr (Or.inr (Or.inr (Int32.not_lt.mpr q))))) (by omega)
                have hzi_12 := in_z ei_12 (by omega)
                have hzj_13 := in_z ej_13 (by omega)
                subst ej_13
                have hcl : cl (nI i_12) (nI j_13) = j_13 * 10 + i_12 := cl_nI (by omega) (by omega)
                have hl : lv_has ls 8 [(7, Value.int (nI j_13)), (6, Value.int (nI (ci + 0))), (0, Value.ref h0), (1, Value.int (nI si)), (2, Value.int (nI ci)), (3, Value.int (nI cj)), (4, Value.int (nI bq)), (5, Value.int (nI kq))] := hl
                refine lv_if_eq (tgt := 132) hx hb dX10_beside_71 (by decide) (fun c_14 => absurd c_14 (by decide)) (fun c_14 => ?_)
                refine lv_aload_n hx hb dX10_beside_74 rfl (lv_at hl 2 rfl) ?_
                refine lv_bipush (v := 10) hx hb dX10_beside_75 (by decide) ?_
                refine lv_iload hx hb dX10_beside_77 (lv_at hl 0 rfl) ?_
                refine lv_imul hx hb dX10_beside_79 ?_
                refine lv_topi (fun z_15 ez_15 => ?_)
                obtain rfl : z_15 = nI (10 * j_13) := ez_15.trans (pk_mul 10 j_13)
                refine lv_iload hx hb dX10_beside_80 (lv_at hl 1 rfl) ?_
                refine lv_iadd hx hb dX10_beside_82 ?_
                refine lv_topi (fun z_16 ez_16 => ?_)
                obtain rfl : z_16 = nI (10 * j_13 + ci + 0) := ez_16.trans (nI_add (10 * j_13) (ci + 0))
                refine mc_Vi (rest := []) (wr := [(m_steps, Sum.inl (y_steps, 400, Sum.inl f_steps))]) F hK hP hD hS hA (t_isOpen l D h0 m_tape ln s_thrown m_rule m_rules sn m_stair s_readStairs s_fault s_faultPlace w h m_low m_high m_crack bc m_weight m_fire m_crowd m_state m_where s_hours s_fees s_looks m_words s_end s_next s_kind s_which s_place s_read m_told m_breaks m_row m_tried m_steps m_paths y_low f_low y_crack f_crack (10 * j_13 + ci + 0) (by omega)) ⟨gk_X10_174.1, gk_X10_174.2, Nat.le_of_ble_eq_true rfl, Nat.le_of_ble_eq_true rfl⟩ [3, 1, 2] [0] [1, 2] ⟨rfl, rfl, rfl, rfl, by decide⟩ rfl xT_move (fun _ _ _ => trivial) 3 rfl rfl rfl hl.1 rfl (Nat.le_of_ble_eq_true rfl) dX10_beside_83 ⟨Nat.le_of_ble_eq_true rfl, Nat.le_of_ble_eq_true rfl⟩ (fun r_17 _ H locs hw hK1 hP hD hS => ?_)
                have hP : va_P D vwCl [(m_steps, Sum.inl (y_steps, 400, Sum.inl f_steps)), (h0, Sum.inr (9, [Value.ref m_tape, Value.int (nI ln), Value.int s_thrown, Value.ref m_rule, Value.ref m_rules, Value.int (nI sn), Value.ref m_stair, Value.int s_readStairs, Value.int s_fault, Value.int s_faultPlace, Value.int (nI w), Value.int (nI h), Value.ref m_low, Value.ref m_high, Value.ref m_crack, Value.int (nI bc), Value.ref m_weight, Value.ref m_fire, Value.ref m_crowd, Value.ref m_state, Value.ref m_where, Value.int s_hours, Value.int s_fees, Value.int s_looks, Value.ref m_words, Value.int s_end, Value.int s_next, Value.int s_kind, Value.int s_which, Value.int s_place, Value.int s_read, Value.ref m_told, Value.ref m_breaks, Value.ref m_row, Value.ref m_tried, Value.ref m_steps, Value.ref m_paths])), (m_low, Sum.inl (y_low, 100, Sum.inl f_low)), (m_crack, Sum.inl (y_crack, 100, Sum.inl f_crack))] H := hP
                have hD : va_D A [(m_steps, Sum.inl (y_steps, 400, Sum.inl f_steps)), (h0, Sum.inr (9, [Value.ref m_tape, Value.int (nI ln), Value.int s_thrown, Value.ref m_rule, Value.ref m_rules, Value.int (nI sn), Value.ref m_stair, Value.int s_readStairs, Value.int s_fault, Value.int s_faultPlace, Value.int (nI w), Value.int (nI h), Value.ref m_low, Value.ref m_high, Value.ref m_crack, Value.int (nI bc), Value.ref m_weight, Value.ref m_fire, Value.ref m_crowd, Value.ref m_state, Value.ref m_where, Value.int s_hours, Value.int s_fees, Value.int s_looks, Value.ref m_words, Value.int s_end, Value.int s_next, Value.int s_kind, Value.int s_which, Value.int s_place, Value.int s_read, Value.ref m_told, Value.ref m_breaks, Value.ref m_row, Value.ref m_tried, Value.ref m_steps, Value.ref m_paths])), (m_low, Sum.inl (y_low, 100, Sum.inl f_low)), (m_crack, Sum.inl (y_crack, 100, Sum.inl f_crack))] := hD
                have hw_18 : (r_17 = 1 ∧ (0 < f_low (10 * j_13 + ci + 0) ∧ f_crack (10 * j_13 + ci + 0) = 0)) ∨ (r_17 = 0 ∧ ¬ (0 < f_low (10 * j_13 + ci + 0) ∧ f_crack (10 * j_13 + ci + 0) = 0)) := hw
                rcases hw_18 with ⟨hr9, op_19⟩ | ⟨hr9, op_19⟩
                · skip
                  subst hr9
                  refine lv_if_eq (tgt := 132) hx hb dX10_beside_86 (by decide) (fun c_20 => absurd c_20 (by decide)) (fun c_20 => ?_)
                  refine lv_aload_n hx hb dX10_beside_89 rfl (lv_at hl 2 rfl) ?_
                  refine va_get (D := D) (ci := 9) (v := Value.ref m_steps) (C := RX10) (T := TX10) (N := 37) hx hb hts inG_X10 hown hK hP 1 rfl rfl 35 (by decide) (hts _ kw_4_230) (fun _ h9 => h9) rfl dX10_beside_90 ?_
                  refine lv_bipush (v := 100) hx hb dX10_beside_93 (by decide) ?_
                  refine lv_iload_n hx hb dX10_beside_95 rfl (lv_at hl 3 rfl) ?_
                  refine lv_imul hx hb dX10_beside_96 ?_
                  refine lv_topi (fun z_21 ez_21 => ?_)
                  obtain rfl : z_21 = nI (100 * si) := ez_21.trans (pk_mul 100 si)
                  refine lv_bipush (v := 10) hx hb dX10_beside_97 (by decide) ?_
                  refine lv_iload hx hb dX10_beside_99 (lv_at hl 0 rfl) ?_
                  refine lv_imul hx hb dX10_beside_101 ?_
                  refine lv_topi (fun z_22 ez_22 => ?_)
                  obtain rfl : z_22 = nI (10 * j_13) := ez_22.trans (pk_mul 10 j_13)
                  refine lv_iadd hx hb dX10_beside_102 ?_
                  refine lv_topi (fun z_23 ez_23 => ?_)
                  obtain rfl : z_23 = nI (100 * si + 10 * j_13) := ez_23.trans (nI_add (100 * si) (10 * j_13))
                  refine lv_iload hx hb dX10_beside_103 (lv_at hl 1 rfl) ?_
                  refine lv_iadd hx hb dX10_beside_105 ?_
                  refine lv_topi (fun z_24 ez_24 => ?_)
                  obtain rfl : z_24 = nI (100 * si + 10 * j_13 + ci + 0) := ez_24.trans (nI_add (100 * si + 10 * j_13) (ci + 0))
                  refine m_iald hx hb hK hP 0 0 rfl rfl (100 * si + 10 * j_13 + ci + 0) rfl (by omega) (by decide) dX10_beside_106 ?_
                  refine lv_topi (fun v_25 ev_25 => ?_)
                  obtain ⟨q_26, hq_26, Eq_26⟩ := hsp (100 * si + 10 * j_13 + ci + 0) (by omega)
                  obtain rfl : v_25 = nI q_26 := ev_25.trans Eq_26
                  refine lv_iload hx hb dX10_beside_107 (lv_at hl 6 rfl) ?_
                  refine lv_icmp_ge (tgt := 132) hx hb dX10_beside_109 (by decide) (fun c_27 => ?_) (fun c_27 => ?_)
                  · skip
                    have c_27n : bq ≤ q_26 := (nI_leI (by omega) (by omega)).mp c_27
                    have c_27 := Int32.not_lt.mpr c_27
                    refine lv_iinc (v := nI (kq + 1)) (lv' := [(5, Value.int (nI (kq + 1))), (7, Value.int (nI j_13)), (6, Value.int (nI (ci + 0))), (0, Value.ref h0), (1, Value.int (nI si)), (2, Value.int (nI ci)), (3, Value.int (nI cj)), (4, Value.int (nI bq))]) hx hb dX10_beside_132 hl (k := 7) rfl (nI_add kq 1) (by decide) rfl (fun ls hl => ?_)
                    refine lv_goto (tgt := 8) hx hb dX10_beside_135 (by decide) ?_
                    exact ih bq (kq + 1) (by omega) (by omega) hsp (by omega) (by omega) (by omega) (by omega) (bsl_n hbs (fun d f q => by rw [show d = (10 * j_13 + (ci + 0)) by (have f1 := f.1; have f2 := f.2.1; unfold nbk at q; omega)]; show bq ≤ uN (f_steps (100 * si + (10 * j_13 + (ci + 0)))); rw [show 100 * si + (10 * j_13 + (ci + 0)) = 100 * si + 10 * j_13 + ci + 0 by omega, Eq_26, uN_nI (by omega)]; omega)) (by omega) H locs (hP.sub [1, 0, 2, 3] rfl) (hD.sub [1, 0, 2, 3] (by decide) rfl) hS ls (lv_sub hl [3, 4, 5, 6, 7, 0] rfl)
                  · skip
                    have c_27n : q_26 < bq := nb_le (by omega) (by omega) c_27
                    have c_27 := Int32.not_le.mp c_27
                    refine lv_aload_n hx hb dX10_beside_112 rfl (lv_at hl 2 rfl) ?_
                    refine va_get (D := D) (ci := 9) (v := Value.ref m_steps) (C := RX10) (T := TX10) (N := 37) hx hb hts inG_X10 hown hK hP 1 rfl rfl 35 (by decide) (hts _ kw_4_230) (fun _ h9 => h9) rfl dX10_beside_113 ?_
                    refine lv_bipush (v := 100) hx hb dX10_beside_116 (by decide) ?_
                    refine lv_iload_n hx hb dX10_beside_118 rfl (lv_at hl 3 rfl) ?_
                    refine lv_imul hx hb dX10_beside_119 ?_
                    refine lv_topi (fun z_28 ez_28 => ?_)
                    obtain rfl : z_28 = nI (100 * si) := ez_28.trans (pk_mul 100 si)
                    refine lv_bipush (v := 10) hx hb dX10_beside_120 (by decide) ?_
                    refine lv_iload hx hb dX10_beside_122 (lv_at hl 0 rfl) ?_
                    refine lv_imul hx hb dX10_beside_124 ?_
                    refine lv_topi (fun z_29 ez_29 => ?_)
                    obtain rfl : z_29 = nI (10 * j_13) := ez_29.trans (pk_mul 10 j_13)
                    refine lv_iadd hx hb dX10_beside_125 ?_
                    refine lv_topi (fun z_30 ez_30 => ?_)
                    obtain rfl : z_30 = nI (100 * si + 10 * j_13) := ez_30.trans (nI_add (100 * si) (10 * j_13))
                    refine lv_iload hx hb dX10_beside_126 (lv_at hl 1 rfl) ?_
                    refine lv_iadd hx hb dX10_beside_128 ?_
                    refine lv_topi (fun z_31 ez_31 => ?_)
                    obtain rfl : z_31 = nI (100 * si + 10 * j_13 + ci + 0) := ez_31.trans (nI_add (100 * si + 10 * j_13) (ci + 0))
                    refine m_iald hx hb hK hP 0 0 rfl rfl (100 * si + 10 * j_13 + ci + 0) rfl (by omega) (by decide) dX10_beside_129 ?_
                    refine lv_topi (fun v_32 ev_32 => ?_)
                    obtain rfl : v_32 = nI q_26 := ev_32.trans ev_25.symm
                    refine lv_istore (lv' := [(4, Value.int (nI q_26)), (7, Value.int (nI j_13)), (6, Value.int (nI (ci + 0))), (0, Value.ref h0), (1, Value.int (nI si)), (2, Value.int (nI ci)), (3, Value.int (nI cj)), (5, Value.int (nI kq))]) hx hb dX10_beside_130 hl (by decide) rfl (fun ls hl => ?_)
                    refine lv_iinc (v := nI (kq + 1)) (lv' := [(5, Value.int (nI (kq + 1))), (4, Value.int (nI q_26)), (7, Value.int (nI j_13)), (6, Value.int (nI (ci + 0))), (0, Value.ref h0), (1, Value.int (nI si)), (2, Value.int (nI ci)), (3, Value.int (nI cj))]) hx hb dX10_beside_132 hl (k := 7) rfl (nI_add kq 1) (by decide) rfl (fun ls hl => ?_)
                    refine lv_goto (tgt := 8) hx hb dX10_beside_135 (by decide) ?_
                    exact ih q_26 (kq + 1) (by omega) (by omega) hsp (by omega) (by omega) (by omega) (by omega) (bsl_y (D := (10 * j_13 + (ci + 0))) hbs (by omega) (by show f_steps (100 * si + (10 * j_13 + (ci + 0))) = nI q_26; rw [show 100 * si + (10 * j_13 + (ci + 0)) = 100 * si + 10 * j_13 + ci + 0 by omega]; exact Eq_26) ⟨by omega, by omega, op_19.1, op_19.2⟩ (by unfold aj; omega) (fun d f q => by have f1 := f.1; have f2 := f.2.1; unfold nbk at q; omega)) (by omega) H locs (hP.sub [1, 0, 2, 3] rfl) (hD.sub [1, 0, 2, 3] (by decide) rfl) hS ls (lv_sub hl [4, 5, 6, 7, 1, 0] rfl)
                · skip
                  subst hr9
                  refine lv_if_eq (tgt := 132) hx hb dX10_beside_86 (by decide) (fun c_33 => ?_) (fun c_33 => absurd c_33 (by decide))
                  refine lv_iinc (v := nI (kq + 1)) (lv' := [(5, Value.int (nI (kq + 1))), (7, Value.int (nI j_13)), (6, Value.int (nI (ci + 0))), (0, Value.ref h0), (1, Value.int (nI si)), (2, Value.int (nI ci)), (3, Value.int (nI cj)), (4, Value.int (nI bq))]) hx hb dX10_beside_132 hl (k := 7) rfl (nI_add kq 1) (by decide) rfl (fun ls hl => ?_)
                  refine lv_goto (tgt := 8) hx hb dX10_beside_135 (by decide) ?_
                  exact ih bq (kq + 1) (by omega) (by omega) hsp (by omega) (by omega) (by omega) (by omega) (bsl_n hbs (fun d f q => by have e9 : d = (10 * j_13 + (ci + 0)) := (by have f1 := f.1; have f2 := f.2.1; unfold nbk at q; omega); rw [e9] at f; exact absurd ⟨f.2.2.1, f.2.2.2⟩ op_19)) (by omega) H locs (hP.sub [1, 0, 2, 3] rfl) (hD.sub [1, 0, 2, 3] (by decide) rfl) hS ls (lv_sub hl [3, 4, 5, 6, 7, 0] rfl)
          · skip
            have c_5n : kq = 2 := (nI_eq (by omega) (by omega)).mp c_5
            refine lv_iconst (v := 1) hx hb dX10_beside_45 (by decide) ?_
            refine lv_goto (tgt := 60) hx hb dX10_beside_46 (by decide) ?_
            refine lv_iadd hx hb dX10_beside_60 ?_
            refine lv_topi (fun z_34 ez_34 => ?_)
            obtain rfl : z_34 = nI (cj + 1) := ez_34.trans (nI_add cj 1)
            refine lv_istore (lv' := [(7, Value.int (nI (cj + 1))), (6, Value.int (nI (ci + 0))), (0, Value.ref h0), (1, Value.int (nI si)), (2, Value.int (nI ci)), (3, Value.int (nI cj)), (4, Value.int (nI bq)), (5, Value.int (nI kq))]) hx hb dX10_beside_61 hl (by decide) rfl (fun ls hl => ?_)
            have hl6 := in_z (x := nI (ci + 0)) rfl (by omega)
            have hl7 := in_z (x := nI (cj + 1)) rfl (by omega)
            refine lv_aload_n hx hb dX10_beside_63 rfl (lv_at hl 2 rfl) ?_
            refine lv_iload hx hb dX10_beside_64 (lv_at hl 1 rfl) ?_
            refine lv_iload hx hb dX10_beside_66 (lv_at hl 0 rfl) ?_
            refine mc_Vi (rest := []) (wr := [(m_steps, Sum.inl (y_steps, 400, Sum.inl f_steps)), (m_low, Sum.inl (y_low, 100, Sum.inl f_low)), (m_crack, Sum.inl (y_crack, 100, Sum.inl f_crack))]) F hK hP hD hS hA (n_isCell l D h0 m_tape ln s_thrown m_rule m_rules sn m_stair s_readStairs s_fault s_faultPlace w h m_low m_high m_crack bc m_weight m_fire m_crowd m_state m_where s_hours s_fees s_looks m_words s_end s_next s_kind s_which s_place s_read m_told m_breaks m_row m_tried m_steps m_paths (nI (ci + 0)) (nI (cj + 1)) (by omega) (by omega)) ⟨gk_X10_155.1, gk_X10_155.2, Nat.le_of_ble_eq_true rfl, Nat.le_of_ble_eq_true rfl⟩ [0] [1, 2, 3] [] ⟨rfl, rfl, rfl, rfl, by decide⟩ rfl xT_move (fun _ _ _ => trivial) 0 rfl rfl rfl hl.1 rfl (Nat.le_of_ble_eq_true rfl) dX10_beside_68 ⟨Nat.le_of_ble_eq_true rfl, Nat.le_of_ble_eq_true rfl⟩ (fun r_35 _ H locs hw hK1 hP hD hS => ?_)
            have hP : va_P D vwCl [(m_steps, Sum.inl (y_steps, 400, Sum.inl f_steps)), (m_low, Sum.inl (y_low, 100, Sum.inl f_low)), (m_crack, Sum.inl (y_crack, 100, Sum.inl f_crack)), (h0, Sum.inr (9, [Value.ref m_tape, Value.int (nI ln), Value.int s_thrown, Value.ref m_rule, Value.ref m_rules, Value.int (nI sn), Value.ref m_stair, Value.int s_readStairs, Value.int s_fault, Value.int s_faultPlace, Value.int (nI w), Value.int (nI h), Value.ref m_low, Value.ref m_high, Value.ref m_crack, Value.int (nI bc), Value.ref m_weight, Value.ref m_fire, Value.ref m_crowd, Value.ref m_state, Value.ref m_where, Value.int s_hours, Value.int s_fees, Value.int s_looks, Value.ref m_words, Value.int s_end, Value.int s_next, Value.int s_kind, Value.int s_which, Value.int s_place, Value.int s_read, Value.ref m_told, Value.ref m_breaks, Value.ref m_row, Value.ref m_tried, Value.ref m_steps, Value.ref m_paths]))] H := hP
            have hD : va_D A [(m_steps, Sum.inl (y_steps, 400, Sum.inl f_steps)), (m_low, Sum.inl (y_low, 100, Sum.inl f_low)), (m_crack, Sum.inl (y_crack, 100, Sum.inl f_crack)), (h0, Sum.inr (9, [Value.ref m_tape, Value.int (nI ln), Value.int s_thrown, Value.ref m_rule, Value.ref m_rules, Value.int (nI sn), Value.ref m_stair, Value.int s_readStairs, Value.int s_fault, Value.int s_faultPlace, Value.int (nI w), Value.int (nI h), Value.ref m_low, Value.ref m_high, Value.ref m_crack, Value.int (nI bc), Value.ref m_weight, Value.ref m_fire, Value.ref m_crowd, Value.ref m_state, Value.ref m_where, Value.int s_hours, Value.int s_fees, Value.int s_looks, Value.ref m_words, Value.int s_end, Value.int s_next, Value.int s_kind, Value.int s_which, Value.int s_place, Value.int s_read, Value.ref m_told, Value.ref m_breaks, Value.ref m_row, Value.ref m_tried, Value.ref m_steps, Value.ref m_paths]))] := hD
            have hw_36 : r_35 = (if ((nI (ci + 0)) < 0 ∨ ¬ (nI (ci + 0)) < nI w ∨ (nI (cj + 1)) < 0 ∨ ¬ (nI (cj + 1)) < nI h) then 0 else 1) := hw
            by_cases ho_37 : ((nI (ci + 0)) < 0 ∨ ¬ (nI (ci + 0)) < nI w ∨ (nI (cj + 1)) < 0 ∨ ¬ (nI (cj + 1)) < nI h)
            · skip
              obtain rfl : r_35 = 0 := by rw [hw_36, if_pos ho_37]
              have hzo := out_z (by omega) (by omega) ho_37
              refine lv_if_eq (tgt := 132) hx hb dX10_beside_71 (by decide) (fun c_38 => ?_) (fun c_38 => absurd c_38 (by decide))
              refine lv_iinc (v := nI (kq + 1)) (lv' := [(5, Value.int (nI (kq + 1))), (7, Value.int (nI (cj + 1))), (6, Value.int (nI (ci + 0))), (0, Value.ref h0), (1, Value.int (nI si)), (2, Value.int (nI ci)), (3, Value.int (nI cj)), (4, Value.int (nI bq))]) hx hb dX10_beside_132 hl (k := 7) rfl (nI_add kq 1) (by decide) rfl (fun ls hl => ?_)
              refine lv_goto (tgt := 8) hx hb dX10_beside_135 (by decide) ?_
              exact ih bq (kq + 1) (by omega) (by omega) hsp (by omega) (by omega) (by omega) (by omega) (bsl_n hbs (fun d f q => absurd (show False by have f1 := f.1; have f2 := f.2.1; unfold nbk at q; omega) id)) (by omega) H locs (hP.sub [3, 0, 1, 2] rfl) (hD.sub [3, 0, 1, 2] (by decide) rfl) hS ls (lv_sub hl [3, 4, 5, 6, 7, 0] rfl)
            · skip
              obtain rfl : r_35 = 1 := by rw [hw_36, if_neg ho_37]
              obtain ⟨i_39, hi_39, ei_39⟩ : ∃ j : Nat, j < w ∧ (nI (ci + 0)) = nI j := n_lt (fun q => ho_37 (Or.inl q)) (fun q => ho_37 (Or.inr (Or.inl (Int32.not_lt.mpr q)))) (by omega)
              obtain ⟨j_40, hj_40, ej_40⟩ : ∃ j : Nat, j < h ∧ (nI (cj + 1)) = nI j := n_lt (fun q => ho_37 (Or.inr (Or.inr (Or.inl q)))) (fun q => ho_37 (Or.inr (Or.inr (Or.inr (Int32.not_lt.mpr q))))) (by omega)
              have hzi_39 := in_z ei_39 (by omega)
              have hzj_40 := in_z ej_40 (by omega)
              have hcl : cl (nI i_39) (nI j_40) = j_40 * 10 + i_39 := cl_nI (by omega) (by omega)
              have hl : lv_has ls 8 [(7, Value.int (nI (cj + 1))), (6, Value.int (nI (ci + 0))), (0, Value.ref h0), (1, Value.int (nI si)), (2, Value.int (nI ci)), (3, Value.int (nI cj)), (4, Value.int (nI bq)), (5, Value.int (nI kq))] := hl
              refine lv_if_eq (tgt := 132) hx hb dX10_beside_71 (by decide) (fun c_41 => absurd c_41 (by decide)) (fun c_41 => ?_)
              refine lv_aload_n hx hb dX10_beside_74 rfl (lv_at hl 2 rfl) ?_
              refine lv_bipush (v := 10) hx hb dX10_beside_75 (by decide) ?_
              refine lv_iload hx hb dX10_beside_77 (lv_at hl 0 rfl) ?_
              refine lv_imul hx hb dX10_beside_79 ?_
              refine lv_topi (fun z_42 ez_42 => ?_)
              obtain rfl : z_42 = nI (10 * (cj + 1)) := ez_42.trans (pk_mul 10 (cj + 1))
              refine lv_iload hx hb dX10_beside_80 (lv_at hl 1 rfl) ?_
              refine lv_iadd hx hb dX10_beside_82 ?_
              refine lv_topi (fun z_43 ez_43 => ?_)
              obtain rfl : z_43 = nI (10 * (cj + 1) + ci + 0) := ez_43.trans (nI_add (10 * (cj + 1)) (ci + 0))
              refine mc_Vi (rest := []) (wr := [(m_steps, Sum.inl (y_steps, 400, Sum.inl f_steps))]) F hK hP hD hS hA (t_isOpen l D h0 m_tape ln s_thrown m_rule m_rules sn m_stair s_readStairs s_fault s_faultPlace w h m_low m_high m_crack bc m_weight m_fire m_crowd m_state m_where s_hours s_fees s_looks m_words s_end s_next s_kind s_which s_place s_read m_told m_breaks m_row m_tried m_steps m_paths y_low f_low y_crack f_crack (10 * (cj + 1) + ci + 0) (by omega)) ⟨gk_X10_174.1, gk_X10_174.2, Nat.le_of_ble_eq_true rfl, Nat.le_of_ble_eq_true rfl⟩ [3, 1, 2] [0] [1, 2] ⟨rfl, rfl, rfl, rfl, by decide⟩ rfl xT_move (fun _ _ _ => trivial) 3 rfl rfl rfl hl.1 rfl (Nat.le_of_ble_eq_true rfl) dX10_beside_83 ⟨Nat.le_of_ble_eq_true rfl, Nat.le_of_ble_eq_true rfl⟩ (fun r_44 _ H locs hw hK1 hP hD hS => ?_)
              have hP : va_P D vwCl [(m_steps, Sum.inl (y_steps, 400, Sum.inl f_steps)), (h0, Sum.inr (9, [Value.ref m_tape, Value.int (nI ln), Value.int s_thrown, Value.ref m_rule, Value.ref m_rules, Value.int (nI sn), Value.ref m_stair, Value.int s_readStairs, Value.int s_fault, Value.int s_faultPlace, Value.int (nI w), Value.int (nI h), Value.ref m_low, Value.ref m_high, Value.ref m_crack, Value.int (nI bc), Value.ref m_weight, Value.ref m_fire, Value.ref m_crowd, Value.ref m_state, Value.ref m_where, Value.int s_hours, Value.int s_fees, Value.int s_looks, Value.ref m_words, Value.int s_end, Value.int s_next, Value.int s_kind, Value.int s_which, Value.int s_place, Value.int s_read, Value.ref m_told, Value.ref m_breaks, Value.ref m_row, Value.ref m_tried, Value.ref m_steps, Value.ref m_paths])), (m_low, Sum.inl (y_low, 100, Sum.inl f_low)), (m_crack, Sum.inl (y_crack, 100, Sum.inl f_crack))] H := hP
              have hD : va_D A [(m_steps, Sum.inl (y_steps, 400, Sum.inl f_steps)), (h0, Sum.inr (9, [Value.ref m_tape, Value.int (nI ln), Value.int s_thrown, Value.ref m_rule, Value.ref m_rules, Value.int (nI sn), Value.ref m_stair, Value.int s_readStairs, Value.int s_fault, Value.int s_faultPlace, Value.int (nI w), Value.int (nI h), Value.ref m_low, Value.ref m_high, Value.ref m_crack, Value.int (nI bc), Value.ref m_weight, Value.ref m_fire, Value.ref m_crowd, Value.ref m_state, Value.ref m_where, Value.int s_hours, Value.int s_fees, Value.int s_looks, Value.ref m_words, Value.int s_end, Value.int s_next, Value.int s_kind, Value.int s_which, Value.int s_place, Value.int s_read, Value.ref m_told, Value.ref m_breaks, Value.ref m_row, Value.ref m_tried, Value.ref m_steps, Value.ref m_paths])), (m_low, Sum.inl (y_low, 100, Sum.inl f_low)), (m_crack, Sum.inl (y_crack, 100, Sum.inl f_crack))] := hD
              have hw_45 : (r_44 = 1 ∧ (0 < f_low (10 * (cj + 1) + ci + 0) ∧ f_crack (10 * (cj + 1) + ci + 0) = 0)) ∨ (r_44 = 0 ∧ ¬ (0 < f_low (10 * (cj + 1) + ci + 0) ∧ f_crack (10 * (cj + 1) + ci + 0) = 0)) := hw
              rcases hw_45 with ⟨hr9, op_46⟩ | ⟨hr9, op_46⟩
              · skip
                subst hr9
                refine lv_if_eq (tgt := 132) hx hb dX10_beside_86 (by decide) (fun c_47 => absurd c_47 (by decide)) (fun c_47 => ?_)
                refine lv_aload_n hx hb dX10_beside_89 rfl (lv_at hl 2 rfl) ?_
                refine va_get (D := D) (ci := 9) (v := Value.ref m_steps) (C := RX10) (T := TX10) (N := 37) hx hb hts inG_X10 hown hK hP 1 rfl rfl 35 (by decide) (hts _ kw_4_230) (fun _ h9 => h9) rfl dX10_beside_90 ?_
                refine lv_bipush (v := 100) hx hb dX10_beside_93 (by decide) ?_
                refine lv_iload_n hx hb dX10_beside_95 rfl (lv_at hl 3 rfl) ?_
                refine lv_imul hx hb dX10_beside_96 ?_
                refine lv_topi (fun z_48 ez_48 => ?_)
                obtain rfl : z_48 = nI (100 * si) := ez_48.trans (pk_mul 100 si)
                refine lv_bipush (v := 10) hx hb dX10_beside_97 (by decide) ?_
                refine lv_iload hx hb dX10_beside_99 (lv_at hl 0 rfl) ?_
                refine lv_imul hx hb dX10_beside_101 ?_
                refine lv_topi (fun z_49 ez_49 => ?_)
                obtain rfl : z_49 = nI (10 * (cj + 1)) := ez_49.trans (pk_mul 10 (cj + 1))
                refine lv_iadd hx hb dX10_beside_102 ?_
                refine lv_topi (fun z_50 ez_50 => ?_)
                obtain rfl : z_50 = nI (100 * si + 10 * (cj + 1)) := ez_50.trans (nI_add (100 * si) (10 * (cj + 1)))
                refine lv_iload hx hb dX10_beside_103 (lv_at hl 1 rfl) ?_
                refine lv_iadd hx hb dX10_beside_105 ?_
                refine lv_topi (fun z_51 ez_51 => ?_)
                obtain rfl : z_51 = nI (100 * si + 10 * (cj + 1) + ci + 0) := ez_51.trans (nI_add (100 * si + 10 * (cj + 1)) (ci + 0))
                refine m_iald hx hb hK hP 0 0 rfl rfl (100 * si + 10 * (cj + 1) + ci + 0) rfl (by omega) (by decide) dX10_beside_106 ?_
                refine lv_topi (fun v_52 ev_52 => ?_)
                obtain ⟨q_53, hq_53, Eq_53⟩ := hsp (100 * si + 10 * (cj + 1) + ci + 0) (by omega)
                obtain rfl : v_52 = nI q_53 := ev_52.trans Eq_53
                refine lv_iload hx hb dX10_beside_107 (lv_at hl 6 rfl) ?_
                refine lv_icmp_ge (tgt := 132) hx hb dX10_beside_109 (by decide) (fun c_54 => ?_) (fun c_54 => ?_)
                · skip
                  have c_54n : bq ≤ q_53 := (nI_leI (by omega) (by omega)).mp c_54
                  have c_54 := Int32.not_lt.mpr c_54
                  refine lv_iinc (v := nI (kq + 1)) (lv' := [(5, Value.int (nI (kq + 1))), (7, Value.int (nI (cj + 1))), (6, Value.int (nI (ci + 0))), (0, Value.ref h0), (1, Value.int (nI si)), (2, Value.int (nI ci)), (3, Value.int (nI cj)), (4, Value.int (nI bq))]) hx hb dX10_beside_132 hl (k := 7) rfl (nI_add kq 1) (by decide) rfl (fun ls hl => ?_)
                  refine lv_goto (tgt := 8) hx hb dX10_beside_135 (by decide) ?_
                  exact ih bq (kq + 1) (by omega) (by omega) hsp (by omega) (by omega) (by omega) (by omega) (bsl_n hbs (fun d f q => by rw [show d = (10 * (cj + 1) + (ci + 0)) by (have f1 := f.1; have f2 := f.2.1; unfold nbk at q; omega)]; show bq ≤ uN (f_steps (100 * si + (10 * (cj + 1) + (ci + 0)))); rw [show 100 * si + (10 * (cj + 1) + (ci + 0)) = 100 * si + 10 * (cj + 1) + ci + 0 by omega, Eq_53, uN_nI (by omega)]; omega)) (by omega) H locs (hP.sub [1, 0, 2, 3] rfl) (hD.sub [1, 0, 2, 3] (by decide) rfl) hS ls (lv_sub hl [3, 4, 5, 6, 7, 0] rfl)
                · skip
                  have c_54n : q_53 < bq := nb_le (by omega) (by omega) c_54
                  have c_54 := Int32.not_le.mp c_54
                  refine lv_aload_n hx hb dX10_beside_112 rfl (lv_at hl 2 rfl) ?_
                  refine va_get (D := D) (ci := 9) (v := Value.ref m_steps) (C := RX10) (T := TX10) (N := 37) hx hb hts inG_X10 hown hK hP 1 rfl rfl 35 (by decide) (hts _ kw_4_230) (fun _ h9 => h9) rfl dX10_beside_113 ?_
                  refine lv_bipush (v := 100) hx hb dX10_beside_116 (by decide) ?_
                  refine lv_iload_n hx hb dX10_beside_118 rfl (lv_at hl 3 rfl) ?_
                  refine lv_imul hx hb dX10_beside_119 ?_
                  refine lv_topi (fun z_55 ez_55 => ?_)
                  obtain rfl : z_55 = nI (100 * si) := ez_55.trans (pk_mul 100 si)
                  refine lv_bipush (v := 10) hx hb dX10_beside_120 (by decide) ?_
                  refine lv_iload hx hb dX10_beside_122 (lv_at hl 0 rfl) ?_
                  refine lv_imul hx hb dX10_beside_124 ?_
                  refine lv_topi (fun z_56 ez_56 => ?_)
                  obtain rfl : z_56 = nI (10 * (cj + 1)) := ez_56.trans (pk_mul 10 (cj + 1))
                  refine lv_iadd hx hb dX10_beside_125 ?_
                  refine lv_topi (fun z_57 ez_57 => ?_)
                  obtain rfl : z_57 = nI (100 * si + 10 * (cj + 1)) := ez_57.trans (nI_add (100 * si) (10 * (cj + 1)))
                  refine lv_iload hx hb dX10_beside_126 (lv_at hl 1 rfl) ?_
                  refine lv_iadd hx hb dX10_beside_128 ?_
                  refine lv_topi (fun z_58 ez_58 => ?_)
                  obtain rfl : z_58 = nI (100 * si + 10 * (cj + 1) + ci + 0) := ez_58.trans (nI_add (100 * si + 10 * (cj + 1)) (ci + 0))
                  refine m_iald hx hb hK hP 0 0 rfl rfl (100 * si + 10 * (cj + 1) + ci + 0) rfl (by omega) (by decide) dX10_beside_129 ?_
                  refine lv_topi (fun v_59 ev_59 => ?_)
                  obtain rfl : v_59 = nI q_53 := ev_59.trans ev_52.symm
                  refine lv_istore (lv' := [(4, Value.int (nI q_53)), (7, Value.int (nI (cj + 1))), (6, Value.int (nI (ci + 0))), (0, Value.ref h0), (1, Value.int (nI si)), (2, Value.int (nI ci)), (3, Value.int (nI cj)), (5, Value.int (nI kq))]) hx hb dX10_beside_130 hl (by decide) rfl (fun ls hl => ?_)
                  refine lv_iinc (v := nI (kq + 1)) (lv' := [(5, Value.int (nI (kq + 1))), (4, Value.int (nI q_53)), (7, Value.int (nI (cj + 1))), (6, Value.int (nI (ci + 0))), (0, Value.ref h0), (1, Value.int (nI si)), (2, Value.int (nI ci)), (3, Value.int (nI cj))]) hx hb dX10_beside_132 hl (k := 7) rfl (nI_add kq 1) (by decide) rfl (fun ls hl => ?_)
                  refine lv_goto (tgt := 8) hx hb dX10_beside_135 (by decide) ?_
                  exact ih q_53 (kq + 1) (by omega) (by omega) hsp (by omega) (by omega) (by omega) (by omega) (bsl_y (D := (10 * (cj + 1) + (ci + 0))) hbs (by omega) (by show f_steps (100 * si + (10 * (cj + 1) + (ci + 0))) = nI q_53; rw [show 100 * si + (10 * (cj + 1) + (ci + 0)) = 100 * si + 10 * (cj + 1) + ci + 0 by omega]; exact Eq_53) ⟨by omega, by omega, op_46.1, op_46.2⟩ (by unfold aj; omega) (fun d f q => by have f1 := f.1; have f2 := f.2.1; unfold nbk at q; omega)) (by omega) H locs (hP.sub [1, 0, 2, 3] rfl) (hD.sub [1, 0, 2, 3] (by decide) rfl) hS ls (lv_sub hl [4, 5, 6, 7, 1, 0] rfl)
              · skip
                subst hr9
                refine lv_if_eq (tgt := 132) hx hb dX10_beside_86 (by decide) (fun c_60 => ?_) (fun c_60 => absurd c_60 (by decide))
                refine lv_iinc (v := nI (kq + 1)) (lv' := [(5, Value.int (nI (kq + 1))), (7, Value.int (nI (cj + 1))), (6, Value.int (nI (ci + 0))), (0, Value.ref h0), (1, Value.int (nI si)), (2, Value.int (nI ci)), (3, Value.int (nI cj)), (4, Value.int (nI bq))]) hx hb dX10_beside_132 hl (k := 7) rfl (nI_add kq 1) (by decide) rfl (fun ls hl => ?_)
                refine lv_goto (tgt := 8) hx hb dX10_beside_135 (by decide) ?_
                exact ih bq (kq + 1) (by omega) (by omega) hsp (by omega) (by omega) (by omega) (by omega) (bsl_n hbs (fun d f q => by have e9 : d = (10 * (cj + 1) + (ci + 0)) := (by have f1 := f.1; have f2 := f.2.1; unfold nbk at q; omega); rw [e9] at f; exact absurd ⟨f.2.2.1, f.2.2.2⟩ op_46)) (by omega) H locs (hP.sub [1, 0, 2, 3] rfl) (hD.sub [1, 0, 2, 3] (by decide) rfl) hS ls (lv_sub hl [3, 4, 5, 6, 7, 0] rfl)
        · skip
          have c_3n : kq = 1 := (nI_eq (by omega) (by omega)).mp c_3
          refine lv_iconst (v := -1) hx hb dX10_beside_30 (by decide) ?_
          refine lv_goto (tgt := 35) hx hb dX10_beside_31 (by decide) ?_
          refine lv_iadd hx hb dX10_beside_35 ?_
          refine lv_topi (fun z_61 ez_61 => ?_)
          have hZz_61 : z_61.toInt = ((ci : Nat) : Int) + (-1 : Int) := by rw [ez_61]; exact z_add (nI_toInt (by omega)) (by decide) (by omega) (by omega)
          refine lv_istore (lv' := [(6, Value.int z_61), (0, Value.ref h0), (1, Value.int (nI si)), (2, Value.int (nI ci)), (3, Value.int (nI cj)), (4, Value.int (nI bq)), (5, Value.int (nI kq))]) hx hb dX10_beside_36 hl (by decide) rfl (fun ls hl => ?_)
          refine lv_iload_n hx hb dX10_beside_38 rfl (lv_at hl 4 rfl) ?_
          refine lv_iload hx hb dX10_beside_39 (lv_at hl 6 rfl) ?_
          refine lv_iconst (v := 2) hx hb dX10_beside_41 (by decide) ?_
          refine lv_icmp_ne (tgt := 49) hx hb dX10_beside_42 (by decide) (fun c_62 => ?_) (fun c_62 => ?_)
          · skip
            have c_62n : ¬ kq = 2 := nb_eq (by omega) (by omega) c_62
            refine lv_iload hx hb dX10_beside_49 (lv_at hl 6 rfl) ?_
            refine lv_iconst (v := 3) hx hb dX10_beside_51 (by decide) ?_
            refine lv_icmp_ne (tgt := 59) hx hb dX10_beside_52 (by decide) (fun c_63 => ?_) (fun c_63 => ?_)
            · skip
              have c_63n : ¬ kq = 3 := nb_eq (by omega) (by omega) c_63
              refine lv_iconst (v := 0) hx hb dX10_beside_59 (by decide) ?_
              refine lv_iadd hx hb dX10_beside_60 ?_
              refine lv_topi (fun z_64 ez_64 => ?_)
              obtain rfl : z_64 = nI (cj + 0) := ez_64.trans (nI_add cj 0)
              refine lv_istore (lv' := [(7, Value.int (nI (cj + 0))), (6, Value.int z_61), (0, Value.ref h0), (1, Value.int (nI si)), (2, Value.int (nI ci)), (3, Value.int (nI cj)), (4, Value.int (nI bq)), (5, Value.int (nI kq))]) hx hb dX10_beside_61 hl (by decide) rfl (fun ls hl => ?_)
              have hl7 := in_z (x := nI (cj + 0)) rfl (by omega)
              refine lv_aload_n hx hb dX10_beside_63 rfl (lv_at hl 2 rfl) ?_
              refine lv_iload hx hb dX10_beside_64 (lv_at hl 1 rfl) ?_
              refine lv_iload hx hb dX10_beside_66 (lv_at hl 0 rfl) ?_
              refine mc_Vi (rest := []) (wr := [(m_steps, Sum.inl (y_steps, 400, Sum.inl f_steps)), (m_low, Sum.inl (y_low, 100, Sum.inl f_low)), (m_crack, Sum.inl (y_crack, 100, Sum.inl f_crack))]) F hK hP hD hS hA (n_isCell l D h0 m_tape ln s_thrown m_rule m_rules sn m_stair s_readStairs s_fault s_faultPlace w h m_low m_high m_crack bc m_weight m_fire m_crowd m_state m_where s_hours s_fees s_looks m_words s_end s_next s_kind s_which s_place s_read m_told m_breaks m_row m_tried m_steps m_paths z_61 (nI (cj + 0)) (by omega) (by omega)) ⟨gk_X10_155.1, gk_X10_155.2, Nat.le_of_ble_eq_true rfl, Nat.le_of_ble_eq_true rfl⟩ [0] [1, 2, 3] [] ⟨rfl, rfl, rfl, rfl, by decide⟩ rfl xT_move (fun _ _ _ => trivial) 0 rfl rfl rfl hl.1 rfl (Nat.le_of_ble_eq_true rfl) dX10_beside_68 ⟨Nat.le_of_ble_eq_true rfl, Nat.le_of_ble_eq_true rfl⟩ (fun r_65 _ H locs hw hK1 hP hD hS => ?_)
              have hP : va_P D vwCl [(m_steps, Sum.inl (y_steps, 400, Sum.inl f_steps)), (m_low, Sum.inl (y_low, 100, Sum.inl f_low)), (m_crack, Sum.inl (y_crack, 100, Sum.inl f_crack)), (h0, Sum.inr (9, [Value.ref m_tape, Value.int (nI ln), Value.int s_thrown, Value.ref m_rule, Value.ref m_rules, Value.int (nI sn), Value.ref m_stair, Value.int s_readStairs, Value.int s_fault, Value.int s_faultPlace, Value.int (nI w), Value.int (nI h), Value.ref m_low, Value.ref m_high, Value.ref m_crack, Value.int (nI bc), Value.ref m_weight, Value.ref m_fire, Value.ref m_crowd, Value.ref m_state, Value.ref m_where, Value.int s_hours, Value.int s_fees, Value.int s_looks, Value.ref m_words, Value.int s_end, Value.int s_next, Value.int s_kind, Value.int s_which, Value.int s_place, Value.int s_read, Value.ref m_told, Value.ref m_breaks, Value.ref m_row, Value.ref m_tried, Value.ref m_steps, Value.ref m_paths]))] H := hP
              have hD : va_D A [(m_steps, Sum.inl (y_steps, 400, Sum.inl f_steps)), (m_low, Sum.inl (y_low, 100, Sum.inl f_low)), (m_crack, Sum.inl (y_crack, 100, Sum.inl f_crack)), (h0, Sum.inr (9, [Value.ref m_tape, Value.int (nI ln), Value.int s_thrown, Value.ref m_rule, Value.ref m_rules, Value.int (nI sn), Value.ref m_stair, Value.int s_readStairs, Value.int s_fault, Value.int s_faultPlace, Value.int (nI w), Value.int (nI h), Value.ref m_low, Value.ref m_high, Value.ref m_crack, Value.int (nI bc), Value.ref m_weight, Value.ref m_fire, Value.ref m_crowd, Value.ref m_state, Value.ref m_where, Value.int s_hours, Value.int s_fees, Value.int s_looks, Value.ref m_words, Value.int s_end, Value.int s_next, Value.int s_kind, Value.int s_which, Value.int s_place, Value.int s_read, Value.ref m_told, Value.ref m_breaks, Value.ref m_row, Value.ref m_tried, Value.ref m_steps, Value.ref m_paths]))] := hD
              have hw_66 : r_65 = (if (z_61 < 0 ∨ ¬ z_61 < nI w ∨ (nI (cj + 0)) < 0 ∨ ¬ (nI (cj + 0)) < nI h) then 0 else 1) := hw
              by_cases ho_67 : (z_61 < 0 ∨ ¬ z_61 < nI w ∨ (nI (cj + 0)) < 0 ∨ ¬ (nI (cj + 0)) < nI h)
              · skip
                obtain rfl : r_65 = 0 := by rw [hw_66, if_pos ho_67]
                have hzo := out_z (by omega) (by omega) ho_67
                refine lv_if_eq (tgt := 132) hx hb dX10_beside_71 (by decide) (fun c_68 => ?_) (fun c_68 => absurd c_68 (by decide))
                refine lv_iinc (v := nI (kq + 1)) (lv' := [(5, Value.int (nI (kq + 1))), (7, Value.int (nI (cj + 0))), (6, Value.int z_61), (0, Value.ref h0), (1, Value.int (nI si)), (2, Value.int (nI ci)), (3, Value.int (nI cj)), (4, Value.int (nI bq))]) hx hb dX10_beside_132 hl (k := 7) rfl (nI_add kq 1) (by decide) rfl (fun ls hl => ?_)
                refine lv_goto (tgt := 8) hx hb dX10_beside_135 (by decide) ?_
                exact ih bq (kq + 1) (by omega) (by omega) hsp (by omega) (by omega) (by omega) (by omega) (bsl_n hbs (fun d f q => absurd (show False by have f1 := f.1; have f2 := f.2.1; unfold nbk at q; omega) id)) (by omega) H locs (hP.sub [3, 0, 1, 2] rfl) (hD.sub [3, 0, 1, 2] (by decide) rfl) hS ls (lv_sub hl [3, 4, 5, 6, 7, 0] rfl)
              · skip
                obtain rfl : r_65 = 1 := by rw [hw_66, if_neg ho_67]
                obtain ⟨i_69, hi_69, ei_69⟩ : ∃ j : Nat, j < w ∧ z_61 = nI j := n_lt (fun q => ho_67 (Or.inl q)) (fun q => ho_67 (Or.inr (Or.inl (Int32.not_lt.mpr q)))) (by omega)
                obtain ⟨j_70, hj_70, ej_70⟩ : ∃ j : Nat, j < h ∧ (nI (cj + 0)) = nI j := n_lt (fun q => ho_67 (Or.inr (Or.inr (Or.inl q)))) (fun q => ho_67 (Or.inr (Or.inr (Or.inr (Int32.not_lt.mpr q))))) (by omega)
                have hzi_69 := in_z ei_69 (by omega)
                have hzj_70 := in_z ej_70 (by omega)
                subst ei_69
                have hcl : cl (nI i_69) (nI j_70) = j_70 * 10 + i_69 := cl_nI (by omega) (by omega)
                have hl : lv_has ls 8 [(7, Value.int (nI (cj + 0))), (6, Value.int (nI i_69)), (0, Value.ref h0), (1, Value.int (nI si)), (2, Value.int (nI ci)), (3, Value.int (nI cj)), (4, Value.int (nI bq)), (5, Value.int (nI kq))] := hl
                refine lv_if_eq (tgt := 132) hx hb dX10_beside_71 (by decide) (fun c_71 => absurd c_71 (by decide)) (fun c_71 => ?_)
                refine lv_aload_n hx hb dX10_beside_74 rfl (lv_at hl 2 rfl) ?_
                refine lv_bipush (v := 10) hx hb dX10_beside_75 (by decide) ?_
                refine lv_iload hx hb dX10_beside_77 (lv_at hl 0 rfl) ?_
                refine lv_imul hx hb dX10_beside_79 ?_
                refine lv_topi (fun z_72 ez_72 => ?_)
                obtain rfl : z_72 = nI (10 * (cj + 0)) := ez_72.trans (pk_mul 10 (cj + 0))
                refine lv_iload hx hb dX10_beside_80 (lv_at hl 1 rfl) ?_
                refine lv_iadd hx hb dX10_beside_82 ?_
                refine lv_topi (fun z_73 ez_73 => ?_)
                obtain rfl : z_73 = nI (10 * (cj + 0) + i_69) := ez_73.trans (nI_add (10 * (cj + 0)) i_69)
                refine mc_Vi (rest := []) (wr := [(m_steps, Sum.inl (y_steps, 400, Sum.inl f_steps))]) F hK hP hD hS hA (t_isOpen l D h0 m_tape ln s_thrown m_rule m_rules sn m_stair s_readStairs s_fault s_faultPlace w h m_low m_high m_crack bc m_weight m_fire m_crowd m_state m_where s_hours s_fees s_looks m_words s_end s_next s_kind s_which s_place s_read m_told m_breaks m_row m_tried m_steps m_paths y_low f_low y_crack f_crack (10 * (cj + 0) + i_69) (by omega)) ⟨gk_X10_174.1, gk_X10_174.2, Nat.le_of_ble_eq_true rfl, Nat.le_of_ble_eq_true rfl⟩ [3, 1, 2] [0] [1, 2] ⟨rfl, rfl, rfl, rfl, by decide⟩ rfl xT_move (fun _ _ _ => trivial) 3 rfl rfl rfl hl.1 rfl (Nat.le_of_ble_eq_true rfl) dX10_beside_83 ⟨Nat.le_of_ble_eq_true rfl, Nat.le_of_ble_eq_true rfl⟩ (fun r_74 _ H locs hw hK1 hP hD hS => ?_)
                have hP : va_P D vwCl [(m_steps, Sum.inl (y_steps, 400, Sum.inl f_steps)), (h0, Sum.inr (9, [Value.ref m_tape, Value.int (nI ln), Value.int s_thrown, Value.ref m_rule, Value.ref m_rules, Value.int (nI sn), Value.ref m_stair, Value.int s_readStairs, Value.int s_fault, Value.int s_faultPlace, Value.int (nI w), Value.int (nI h), Value.ref m_low, Value.ref m_high, Value.ref m_crack, Value.int (nI bc), Value.ref m_weight, Value.ref m_fire, Value.ref m_crowd, Value.ref m_state, Value.ref m_where, Value.int s_hours, Value.int s_fees, Value.int s_looks, Value.ref m_words, Value.int s_end, Value.int s_next, Value.int s_kind, Value.int s_which, Value.int s_place, Value.int s_read, Value.ref m_told, Value.ref m_breaks, Value.ref m_row, Value.ref m_tried, Value.ref m_steps, Value.ref m_paths])), (m_low, Sum.inl (y_low, 100, Sum.inl f_low)), (m_crack, Sum.inl (y_crack, 100, Sum.inl f_crack))] H := hP
                have hD : va_D A [(m_steps, Sum.inl (y_steps, 400, Sum.inl f_steps)), (h0, Sum.inr (9, [Value.ref m_tape, Value.int (nI ln), Value.int s_thrown, Value.ref m_rule, Value.ref m_rules, Value.int (nI sn), Value.ref m_stair, Value.int s_readStairs, Value.int s_fault, Value.int s_faultPlace, Value.int (nI w), Value.int (nI h), Value.ref m_low, Value.ref m_high, Value.ref m_crack, Value.int (nI bc), Value.ref m_weight, Value.ref m_fire, Value.ref m_crowd, Value.ref m_state, Value.ref m_where, Value.int s_hours, Value.int s_fees, Value.int s_looks, Value.ref m_words, Value.int s_end, Value.int s_next, Value.int s_kind, Value.int s_which, Value.int s_place, Value.int s_read, Value.ref m_told, Value.ref m_breaks, Value.ref m_row, Value.ref m_tried, Value.ref m_steps, Value.ref m_paths])), (m_low, Sum.inl (y_low, 100, Sum.inl f_low)), (m_crack, Sum.inl (y_crack, 100, Sum.inl f_crack))] := hD
                have hw_75 : (r_74 = 1 ∧ (0 < f_low (10 * (cj + 0) + i_69) ∧ f_crack (10 * (cj + 0) + i_69) = 0)) ∨ (r_74 = 0 ∧ ¬ (0 < f_low (10 * (cj + 0) + i_69) ∧ f_crack (10 * (cj + 0) + i_69) = 0)) := hw
                rcases hw_75 with ⟨hr9, op_76⟩ | ⟨hr9, op_76⟩
                · skip
                  subst hr9
                  refine lv_if_eq (tgt := 132) hx hb dX10_beside_86 (by decide) (fun c_77 => absurd c_77 (by decide)) (fun c_77 => ?_)
                  refine lv_aload_n hx hb dX10_beside_89 rfl (lv_at hl 2 rfl) ?_
                  refine va_get (D := D) (ci := 9) (v := Value.ref m_steps) (C := RX10) (T := TX10) (N := 37) hx hb hts inG_X10 hown hK hP 1 rfl rfl 35 (by decide) (hts _ kw_4_230) (fun _ h9 => h9) rfl dX10_beside_90 ?_
                  refine lv_bipush (v := 100) hx hb dX10_beside_93 (by decide) ?_
                  refine lv_iload_n hx hb dX10_beside_95 rfl (lv_at hl 3 rfl) ?_
                  refine lv_imul hx hb dX10_beside_96 ?_
                  refine lv_topi (fun z_78 ez_78 => ?_)
                  obtain rfl : z_78 = nI (100 * si) := ez_78.trans (pk_mul 100 si)
                  refine lv_bipush (v := 10) hx hb dX10_beside_97 (by decide) ?_
                  refine lv_iload hx hb dX10_beside_99 (lv_at hl 0 rfl) ?_
                  refine lv_imul hx hb dX10_beside_101 ?_
                  refine lv_topi (fun z_79 ez_79 => ?_)
                  obtain rfl : z_79 = nI (10 * (cj + 0)) := ez_79.trans (pk_mul 10 (cj + 0))
                  refine lv_iadd hx hb dX10_beside_102 ?_
                  refine lv_topi (fun z_80 ez_80 => ?_)
                  obtain rfl : z_80 = nI (100 * si + 10 * (cj + 0)) := ez_80.trans (nI_add (100 * si) (10 * (cj + 0)))
                  refine lv_iload hx hb dX10_beside_103 (lv_at hl 1 rfl) ?_
                  refine lv_iadd hx hb dX10_beside_105 ?_
                  refine lv_topi (fun z_81 ez_81 => ?_)
                  obtain rfl : z_81 = nI (100 * si + 10 * (cj + 0) + i_69) := ez_81.trans (nI_add (100 * si + 10 * (cj + 0)) i_69)
                  refine m_iald hx hb hK hP 0 0 rfl rfl (100 * si + 10 * (cj + 0) + i_69) rfl (by omega) (by decide) dX10_beside_106 ?_
                  refine lv_topi (fun v_82 ev_82 => ?_)
                  obtain ⟨q_83, hq_83, Eq_83⟩ := hsp (100 * si + 10 * (cj + 0) + i_69) (by omega)
                  obtain rfl : v_82 = nI q_83 := ev_82.trans Eq_83
                  refine lv_iload hx hb dX10_beside_107 (lv_at hl 6 rfl) ?_
                  refine lv_icmp_ge (tgt := 132) hx hb dX10_beside_109 (by decide) (fun c_84 => ?_) (fun c_84 => ?_)
                  · skip
                    have c_84n : bq ≤ q_83 := (nI_leI (by omega) (by omega)).mp c_84
                    have c_84 := Int32.not_lt.mpr c_84
                    refine lv_iinc (v := nI (kq + 1)) (lv' := [(5, Value.int (nI (kq + 1))), (7, Value.int (nI (cj + 0))), (6, Value.int (nI i_69)), (0, Value.ref h0), (1, Value.int (nI si)), (2, Value.int (nI ci)), (3, Value.int (nI cj)), (4, Value.int (nI bq))]) hx hb dX10_beside_132 hl (k := 7) rfl (nI_add kq 1) (by decide) rfl (fun ls hl => ?_)
                    refine lv_goto (tgt := 8) hx hb dX10_beside_135 (by decide) ?_
                    exact ih bq (kq + 1) (by omega) (by omega) hsp (by omega) (by omega) (by omega) (by omega) (bsl_n hbs (fun d f q => by rw [show d = (10 * (cj + 0) + i_69) by (have f1 := f.1; have f2 := f.2.1; unfold nbk at q; omega)]; show bq ≤ uN (f_steps (100 * si + (10 * (cj + 0) + i_69))); rw [show 100 * si + (10 * (cj + 0) + i_69) = 100 * si + 10 * (cj + 0) + i_69 by omega, Eq_83, uN_nI (by omega)]; omega)) (by omega) H locs (hP.sub [1, 0, 2, 3] rfl) (hD.sub [1, 0, 2, 3] (by decide) rfl) hS ls (lv_sub hl [3, 4, 5, 6, 7, 0] rfl)
                  · skip
                    have c_84n : q_83 < bq := nb_le (by omega) (by omega) c_84
                    have c_84 := Int32.not_le.mp c_84
                    refine lv_aload_n hx hb dX10_beside_112 rfl (lv_at hl 2 rfl) ?_
                    refine va_get (D := D) (ci := 9) (v := Value.ref m_steps) (C := RX10) (T := TX10) (N := 37) hx hb hts inG_X10 hown hK hP 1 rfl rfl 35 (by decide) (hts _ kw_4_230) (fun _ h9 => h9) rfl dX10_beside_113 ?_
                    refine lv_bipush (v := 100) hx hb dX10_beside_116 (by decide) ?_
                    refine lv_iload_n hx hb dX10_beside_118 rfl (lv_at hl 3 rfl) ?_
                    refine lv_imul hx hb dX10_beside_119 ?_
                    refine lv_topi (fun z_85 ez_85 => ?_)
                    obtain rfl : z_85 = nI (100 * si) := ez_85.trans (pk_mul 100 si)
                    refine lv_bipush (v := 10) hx hb dX10_beside_120 (by decide) ?_
                    refine lv_iload hx hb dX10_beside_122 (lv_at hl 0 rfl) ?_
                    refine lv_imul hx hb dX10_beside_124 ?_
                    refine lv_topi (fun z_86 ez_86 => ?_)
                    obtain rfl : z_86 = nI (10 * (cj + 0)) := ez_86.trans (pk_mul 10 (cj + 0))
                    refine lv_iadd hx hb dX10_beside_125 ?_
                    refine lv_topi (fun z_87 ez_87 => ?_)
                    obtain rfl : z_87 = nI (100 * si + 10 * (cj + 0)) := ez_87.trans (nI_add (100 * si) (10 * (cj + 0)))
                    refine lv_iload hx hb dX10_beside_126 (lv_at hl 1 rfl) ?_
                    refine lv_iadd hx hb dX10_beside_128 ?_
                    refine lv_topi (fun z_88 ez_88 => ?_)
                    obtain rfl : z_88 = nI (100 * si + 10 * (cj + 0) + i_69) := ez_88.trans (nI_add (100 * si + 10 * (cj + 0)) i_69)
                    refine m_iald hx hb hK hP 0 0 rfl rfl (100 * si + 10 * (cj + 0) + i_69) rfl (by omega) (by decide) dX10_beside_129 ?_
                    refine lv_topi (fun v_89 ev_89 => ?_)
                    obtain rfl : v_89 = nI q_83 := ev_89.trans ev_82.symm
                    refine lv_istore (lv' := [(4, Value.int (nI q_83)), (7, Value.int (nI (cj + 0))), (6, Value.int (nI i_69)), (0, Value.ref h0), (1, Value.int (nI si)), (2, Value.int (nI ci)), (3, Value.int (nI cj)), (5, Value.int (nI kq))]) hx hb dX10_beside_130 hl (by decide) rfl (fun ls hl => ?_)
                    refine lv_iinc (v := nI (kq + 1)) (lv' := [(5, Value.int (nI (kq + 1))), (4, Value.int (nI q_83)), (7, Value.int (nI (cj + 0))), (6, Value.int (nI i_69)), (0, Value.ref h0), (1, Value.int (nI si)), (2, Value.int (nI ci)), (3, Value.int (nI cj))]) hx hb dX10_beside_132 hl (k := 7) rfl (nI_add kq 1) (by decide) rfl (fun ls hl => ?_)
                    refine lv_goto (tgt := 8) hx hb dX10_beside_135 (by decide) ?_
                    exact ih q_83 (kq + 1) (by omega) (by omega) hsp (by omega) (by omega) (by omega) (by omega) (bsl_y (D := (10 * (cj + 0) + i_69)) hbs (by omega) (by show f_steps (100 * si + (10 * (cj + 0) + i_69)) = nI q_83; rw [show 100 * si + (10 * (cj + 0) + i_69) = 100 * si + 10 * (cj + 0) + i_69 by omega]; exact Eq_83) ⟨by omega, by omega, op_76.1, op_76.2⟩ (by unfold aj; omega) (fun d f q => by have f1 := f.1; have f2 := f.2.1; unfold nbk at q; omega)) (by omega) H locs (hP.sub [1, 0, 2, 3] rfl) (hD.sub [1, 0, 2, 3] (by decide) rfl) hS ls (lv_sub hl [4, 5, 6, 7, 1, 0] rfl)
                · skip
                  subst hr9
                  refine lv_if_eq (tgt := 132) hx hb dX10_beside_86 (by decide) (fun c_90 => ?_) (fun c_90 => absurd c_90 (by decide))
                  refine lv_iinc (v := nI (kq + 1)) (lv' := [(5, Value.int (nI (kq + 1))), (7, Value.int (nI (cj + 0))), (6, Value.int (nI i_69)), (0, Value.ref h0), (1, Value.int (nI si)), (2, Value.int (nI ci)), (3, Value.int (nI cj)), (4, Value.int (nI bq))]) hx hb dX10_beside_132 hl (k := 7) rfl (nI_add kq 1) (by decide) rfl (fun ls hl => ?_)
                  refine lv_goto (tgt := 8) hx hb dX10_beside_135 (by decide) ?_
                  exact ih bq (kq + 1) (by omega) (by omega) hsp (by omega) (by omega) (by omega) (by omega) (bsl_n hbs (fun d f q => by have e9 : d = (10 * (cj + 0) + i_69) := (by have f1 := f.1; have f2 := f.2.1; unfold nbk at q; omega); rw [e9] at f; exact absurd ⟨f.2.2.1, f.2.2.2⟩ op_76)) (by omega) H locs (hP.sub [1, 0, 2, 3] rfl) (hD.sub [1, 0, 2, 3] (by decide) rfl) hS ls (lv_sub hl [3, 4, 5, 6, 7, 0] rfl)
            · skip
              have c_63n : kq = 3 := (nI_eq (by omega) (by omega)).mp c_63
              exfalso; omega
          · skip
            have c_62n : kq = 2 := (nI_eq (by omega) (by omega)).mp c_62
            exfalso; omega
      · skip
        have c_2n : kq = 0 := (nI_eq (by omega) (by omega)).mp c_2
        refine lv_iconst (v := 1) hx hb dX10_beside_20 (by decide) ?_
        refine lv_goto (tgt := 35) hx hb dX10_beside_21 (by decide) ?_
        refine lv_iadd hx hb dX10_beside_35 ?_
        refine lv_topi (fun z_91 ez_91 => ?_)
        obtain rfl : z_91 = nI (ci + 1) := ez_91.trans (nI_add ci 1)
        refine lv_istore (lv' := [(6, Value.int (nI (ci + 1))), (0, Value.ref h0), (1, Value.int (nI si)), (2, Value.int (nI ci)), (3, Value.int (nI cj)), (4, Value.int (nI bq)), (5, Value.int (nI kq))]) hx hb dX10_beside_36 hl (by decide) rfl (fun ls hl => ?_)
        refine lv_iload_n hx hb dX10_beside_38 rfl (lv_at hl 4 rfl) ?_
        refine lv_iload hx hb dX10_beside_39 (lv_at hl 6 rfl) ?_
        refine lv_iconst (v := 2) hx hb dX10_beside_41 (by decide) ?_
        refine lv_icmp_ne (tgt := 49) hx hb dX10_beside_42 (by decide) (fun c_92 => ?_) (fun c_92 => ?_)
        · skip
          have c_92n : ¬ kq = 2 := nb_eq (by omega) (by omega) c_92
          refine lv_iload hx hb dX10_beside_49 (lv_at hl 6 rfl) ?_
          refine lv_iconst (v := 3) hx hb dX10_beside_51 (by decide) ?_
          refine lv_icmp_ne (tgt := 59) hx hb dX10_beside_52 (by decide) (fun c_93 => ?_) (fun c_93 => ?_)
          · skip
            have c_93n : ¬ kq = 3 := nb_eq (by omega) (by omega) c_93
            refine lv_iconst (v := 0) hx hb dX10_beside_59 (by decide) ?_
            refine lv_iadd hx hb dX10_beside_60 ?_
            refine lv_topi (fun z_94 ez_94 => ?_)
            obtain rfl : z_94 = nI (cj + 0) := ez_94.trans (nI_add cj 0)
            refine lv_istore (lv' := [(7, Value.int (nI (cj + 0))), (6, Value.int (nI (ci + 1))), (0, Value.ref h0), (1, Value.int (nI si)), (2, Value.int (nI ci)), (3, Value.int (nI cj)), (4, Value.int (nI bq)), (5, Value.int (nI kq))]) hx hb dX10_beside_61 hl (by decide) rfl (fun ls hl => ?_)
            have hl6 := in_z (x := nI (ci + 1)) rfl (by omega)
            have hl7 := in_z (x := nI (cj + 0)) rfl (by omega)
            refine lv_aload_n hx hb dX10_beside_63 rfl (lv_at hl 2 rfl) ?_
            refine lv_iload hx hb dX10_beside_64 (lv_at hl 1 rfl) ?_
            refine lv_iload hx hb dX10_beside_66 (lv_at hl 0 rfl) ?_
            refine mc_Vi (rest := []) (wr := [(m_steps, Sum.inl (y_steps, 400, Sum.inl f_steps)), (m_low, Sum.inl (y_low, 100, Sum.inl f_low)), (m_crack, Sum.inl (y_crack, 100, Sum.inl f_crack))]) F hK hP hD hS hA (n_isCell l D h0 m_tape ln s_thrown m_rule m_rules sn m_stair s_readStairs s_fault s_faultPlace w h m_low m_high m_crack bc m_weight m_fire m_crowd m_state m_where s_hours s_fees s_looks m_words s_end s_next s_kind s_which s_place s_read m_told m_breaks m_row m_tried m_steps m_paths (nI (ci + 1)) (nI (cj + 0)) (by omega) (by omega)) ⟨gk_X10_155.1, gk_X10_155.2, Nat.le_of_ble_eq_true rfl, Nat.le_of_ble_eq_true rfl⟩ [0] [1, 2, 3] [] ⟨rfl, rfl, rfl, rfl, by decide⟩ rfl xT_move (fun _ _ _ => trivial) 0 rfl rfl rfl hl.1 rfl (Nat.le_of_ble_eq_true rfl) dX10_beside_68 ⟨Nat.le_of_ble_eq_true rfl, Nat.le_of_ble_eq_true rfl⟩ (fun r_95 _ H locs hw hK1 hP hD hS => ?_)
            have hP : va_P D vwCl [(m_steps, Sum.inl (y_steps, 400, Sum.inl f_steps)), (m_low, Sum.inl (y_low, 100, Sum.inl f_low)), (m_crack, Sum.inl (y_crack, 100, Sum.inl f_crack)), (h0, Sum.inr (9, [Value.ref m_tape, Value.int (nI ln), Value.int s_thrown, Value.ref m_rule, Value.ref m_rules, Value.int (nI sn), Value.ref m_stair, Value.int s_readStairs, Value.int s_fault, Value.int s_faultPlace, Value.int (nI w), Value.int (nI h), Value.ref m_low, Value.ref m_high, Value.ref m_crack, Value.int (nI bc), Value.ref m_weight, Value.ref m_fire, Value.ref m_crowd, Value.ref m_state, Value.ref m_where, Value.int s_hours, Value.int s_fees, Value.int s_looks, Value.ref m_words, Value.int s_end, Value.int s_next, Value.int s_kind, Value.int s_which, Value.int s_place, Value.int s_read, Value.ref m_told, Value.ref m_breaks, Value.ref m_row, Value.ref m_tried, Value.ref m_steps, Value.ref m_paths]))] H := hP
            have hD : va_D A [(m_steps, Sum.inl (y_steps, 400, Sum.inl f_steps)), (m_low, Sum.inl (y_low, 100, Sum.inl f_low)), (m_crack, Sum.inl (y_crack, 100, Sum.inl f_crack)), (h0, Sum.inr (9, [Value.ref m_tape, Value.int (nI ln), Value.int s_thrown, Value.ref m_rule, Value.ref m_rules, Value.int (nI sn), Value.ref m_stair, Value.int s_readStairs, Value.int s_fault, Value.int s_faultPlace, Value.int (nI w), Value.int (nI h), Value.ref m_low, Value.ref m_high, Value.ref m_crack, Value.int (nI bc), Value.ref m_weight, Value.ref m_fire, Value.ref m_crowd, Value.ref m_state, Value.ref m_where, Value.int s_hours, Value.int s_fees, Value.int s_looks, Value.ref m_words, Value.int s_end, Value.int s_next, Value.int s_kind, Value.int s_which, Value.int s_place, Value.int s_read, Value.ref m_told, Value.ref m_breaks, Value.ref m_row, Value.ref m_tried, Value.ref m_steps, Value.ref m_paths]))] := hD
            have hw_96 : r_95 = (if ((nI (ci + 1)) < 0 ∨ ¬ (nI (ci + 1)) < nI w ∨ (nI (cj + 0)) < 0 ∨ ¬ (nI (cj + 0)) < nI h) then 0 else 1) := hw
            by_cases ho_97 : ((nI (ci + 1)) < 0 ∨ ¬ (nI (ci + 1)) < nI w ∨ (nI (cj + 0)) < 0 ∨ ¬ (nI (cj + 0)) < nI h)
            · skip
              obtain rfl : r_95 = 0 := by rw [hw_96, if_pos ho_97]
              have hzo := out_z (by omega) (by omega) ho_97
              refine lv_if_eq (tgt := 132) hx hb dX10_beside_71 (by decide) (fun c_98 => ?_) (fun c_98 => absurd c_98 (by decide))
              refine lv_iinc (v := nI (kq + 1)) (lv' := [(5, Value.int (nI (kq + 1))), (7, Value.int (nI (cj + 0))), (6, Value.int (nI (ci + 1))), (0, Value.ref h0), (1, Value.int (nI si)), (2, Value.int (nI ci)), (3, Value.int (nI cj)), (4, Value.int (nI bq))]) hx hb dX10_beside_132 hl (k := 7) rfl (nI_add kq 1) (by decide) rfl (fun ls hl => ?_)
              refine lv_goto (tgt := 8) hx hb dX10_beside_135 (by decide) ?_
              exact ih bq (kq + 1) (by omega) (by omega) hsp (by omega) (by omega) (by omega) (by omega) (bsl_n hbs (fun d f q => absurd (show False by have f1 := f.1; have f2 := f.2.1; unfold nbk at q; omega) id)) (by omega) H locs (hP.sub [3, 0, 1, 2] rfl) (hD.sub [3, 0, 1, 2] (by decide) rfl) hS ls (lv_sub hl [3, 4, 5, 6, 7, 0] rfl)
            · skip
              obtain rfl : r_95 = 1 := by rw [hw_96, if_neg ho_97]
              obtain ⟨i_99, hi_99, ei_99⟩ : ∃ j : Nat, j < w ∧ (nI (ci + 1)) = nI j := n_lt (fun q => ho_97 (Or.inl q)) (fun q => ho_97 (Or.inr (Or.inl (Int32.not_lt.mpr q)))) (by omega)
              obtain ⟨j_100, hj_100, ej_100⟩ : ∃ j : Nat, j < h ∧ (nI (cj + 0)) = nI j := n_lt (fun q => ho_97 (Or.inr (Or.inr (Or.inl q)))) (fun q => ho_97 (Or.inr (Or.inr (Or.inr (Int32.not_lt.mpr q))))) (by omega)
              have hzi_99 := in_z ei_99 (by omega)
              have hzj_100 := in_z ej_100 (by omega)
              have hcl : cl (nI i_99) (nI j_100) = j_100 * 10 + i_99 := cl_nI (by omega) (by omega)
              have hl : lv_has ls 8 [(7, Value.int (nI (cj + 0))), (6, Value.int (nI (ci + 1))), (0, Value.ref h0), (1, Value.int (nI si)), (2, Value.int (nI ci)), (3, Value.int (nI cj)), (4, Value.int (nI bq)), (5, Value.int (nI kq))] := hl
              refine lv_if_eq (tgt := 132) hx hb dX10_beside_71 (by decide) (fun c_101 => absurd c_101 (by decide)) (fun c_101 => ?_)
              refine lv_aload_n hx hb dX10_beside_74 rfl (lv_at hl 2 rfl) ?_
              refine lv_bipush (v := 10) hx hb dX10_beside_75 (by decide) ?_
              refine lv_iload hx hb dX10_beside_77 (lv_at hl 0 rfl) ?_
              refine lv_imul hx hb dX10_beside_79 ?_
              refine lv_topi (fun z_102 ez_102 => ?_)
              obtain rfl : z_102 = nI (10 * (cj + 0)) := ez_102.trans (pk_mul 10 (cj + 0))
              refine lv_iload hx hb dX10_beside_80 (lv_at hl 1 rfl) ?_
              refine lv_iadd hx hb dX10_beside_82 ?_
              refine lv_topi (fun z_103 ez_103 => ?_)
              obtain rfl : z_103 = nI (10 * (cj + 0) + ci + 1) := ez_103.trans (nI_add (10 * (cj + 0)) (ci + 1))
              refine mc_Vi (rest := []) (wr := [(m_steps, Sum.inl (y_steps, 400, Sum.inl f_steps))]) F hK hP hD hS hA (t_isOpen l D h0 m_tape ln s_thrown m_rule m_rules sn m_stair s_readStairs s_fault s_faultPlace w h m_low m_high m_crack bc m_weight m_fire m_crowd m_state m_where s_hours s_fees s_looks m_words s_end s_next s_kind s_which s_place s_read m_told m_breaks m_row m_tried m_steps m_paths y_low f_low y_crack f_crack (10 * (cj + 0) + ci + 1) (by omega)) ⟨gk_X10_174.1, gk_X10_174.2, Nat.le_of_ble_eq_true rfl, Nat.le_of_ble_eq_true rfl⟩ [3, 1, 2] [0] [1, 2] ⟨rfl, rfl, rfl, rfl, by decide⟩ rfl xT_move (fun _ _ _ => trivial) 3 rfl rfl rfl hl.1 rfl (Nat.le_of_ble_eq_true rfl) dX10_beside_83 ⟨Nat.le_of_ble_eq_true rfl, Nat.le_of_ble_eq_true rfl⟩ (fun r_104 _ H locs hw hK1 hP hD hS => ?_)
              have hP : va_P D vwCl [(m_steps, Sum.inl (y_steps, 400, Sum.inl f_steps)), (h0, Sum.inr (9, [Value.ref m_tape, Value.int (nI ln), Value.int s_thrown, Value.ref m_rule, Value.ref m_rules, Value.int (nI sn), Value.ref m_stair, Value.int s_readStairs, Value.int s_fault, Value.int s_faultPlace, Value.int (nI w), Value.int (nI h), Value.ref m_low, Value.ref m_high, Value.ref m_crack, Value.int (nI bc), Value.ref m_weight, Value.ref m_fire, Value.ref m_crowd, Value.ref m_state, Value.ref m_where, Value.int s_hours, Value.int s_fees, Value.int s_looks, Value.ref m_words, Value.int s_end, Value.int s_next, Value.int s_kind, Value.int s_which, Value.int s_place, Value.int s_read, Value.ref m_told, Value.ref m_breaks, Value.ref m_row, Value.ref m_tried, Value.ref m_steps, Value.ref m_paths])), (m_low, Sum.inl (y_low, 100, Sum.inl f_low)), (m_crack, Sum.inl (y_crack, 100, Sum.inl f_crack))] H := hP
              have hD : va_D A [(m_steps, Sum.inl (y_steps, 400, Sum.inl f_steps)), (h0, Sum.inr (9, [Value.ref m_tape, Value.int (nI ln), Value.int s_thrown, Value.ref m_rule, Value.ref m_rules, Value.int (nI sn), Value.ref m_stair, Value.int s_readStairs, Value.int s_fault, Value.int s_faultPlace, Value.int (nI w), Value.int (nI h), Value.ref m_low, Value.ref m_high, Value.ref m_crack, Value.int (nI bc), Value.ref m_weight, Value.ref m_fire, Value.ref m_crowd, Value.ref m_state, Value.ref m_where, Value.int s_hours, Value.int s_fees, Value.int s_looks, Value.ref m_words, Value.int s_end, Value.int s_next, Value.int s_kind, Value.int s_which, Value.int s_place, Value.int s_read, Value.ref m_told, Value.ref m_breaks, Value.ref m_row, Value.ref m_tried, Value.ref m_steps, Value.ref m_paths])), (m_low, Sum.inl (y_low, 100, Sum.inl f_low)), (m_crack, Sum.inl (y_crack, 100, Sum.inl f_crack))] := hD
              have hw_105 : (r_104 = 1 ∧ (0 < f_low (10 * (cj + 0) + ci + 1) ∧ f_crack (10 * (cj + 0) + ci + 1) = 0)) ∨ (r_104 = 0 ∧ ¬ (0 < f_low (10 * (cj + 0) + ci + 1) ∧ f_crack (10 * (cj + 0) + ci + 1) = 0)) := hw
              rcases hw_105 with ⟨hr9, op_106⟩ | ⟨hr9, op_106⟩
              · skip
                subst hr9
                refine lv_if_eq (tgt := 132) hx hb dX10_beside_86 (by decide) (fun c_107 => absurd c_107 (by decide)) (fun c_107 => ?_)
                refine lv_aload_n hx hb dX10_beside_89 rfl (lv_at hl 2 rfl) ?_
                refine va_get (D := D) (ci := 9) (v := Value.ref m_steps) (C := RX10) (T := TX10) (N := 37) hx hb hts inG_X10 hown hK hP 1 rfl rfl 35 (by decide) (hts _ kw_4_230) (fun _ h9 => h9) rfl dX10_beside_90 ?_
                refine lv_bipush (v := 100) hx hb dX10_beside_93 (by decide) ?_
                refine lv_iload_n hx hb dX10_beside_95 rfl (lv_at hl 3 rfl) ?_
                refine lv_imul hx hb dX10_beside_96 ?_
                refine lv_topi (fun z_108 ez_108 => ?_)
                obtain rfl : z_108 = nI (100 * si) := ez_108.trans (pk_mul 100 si)
                refine lv_bipush (v := 10) hx hb dX10_beside_97 (by decide) ?_
                refine lv_iload hx hb dX10_beside_99 (lv_at hl 0 rfl) ?_
                refine lv_imul hx hb dX10_beside_101 ?_
                refine lv_topi (fun z_109 ez_109 => ?_)
                obtain rfl : z_109 = nI (10 * (cj + 0)) := ez_109.trans (pk_mul 10 (cj + 0))
                refine lv_iadd hx hb dX10_beside_102 ?_
                refine lv_topi (fun z_110 ez_110 => ?_)
                obtain rfl : z_110 = nI (100 * si + 10 * (cj + 0)) := ez_110.trans (nI_add (100 * si) (10 * (cj + 0)))
                refine lv_iload hx hb dX10_beside_103 (lv_at hl 1 rfl) ?_
                refine lv_iadd hx hb dX10_beside_105 ?_
                refine lv_topi (fun z_111 ez_111 => ?_)
                obtain rfl : z_111 = nI (100 * si + 10 * (cj + 0) + ci + 1) := ez_111.trans (nI_add (100 * si + 10 * (cj + 0)) (ci + 1))
                refine m_iald hx hb hK hP 0 0 rfl rfl (100 * si + 10 * (cj + 0) + ci + 1) rfl (by omega) (by decide) dX10_beside_106 ?_
                refine lv_topi (fun v_112 ev_112 => ?_)
                obtain ⟨q_113, hq_113, Eq_113⟩ := hsp (100 * si + 10 * (cj + 0) + ci + 1) (by omega)
                obtain rfl : v_112 = nI q_113 := ev_112.trans Eq_113
                refine lv_iload hx hb dX10_beside_107 (lv_at hl 6 rfl) ?_
                refine lv_icmp_ge (tgt := 132) hx hb dX10_beside_109 (by decide) (fun c_114 => ?_) (fun c_114 => ?_)
                · skip
                  have c_114n : bq ≤ q_113 := (nI_leI (by omega) (by omega)).mp c_114
                  have c_114 := Int32.not_lt.mpr c_114
                  refine lv_iinc (v := nI (kq + 1)) (lv' := [(5, Value.int (nI (kq + 1))), (7, Value.int (nI (cj + 0))), (6, Value.int (nI (ci + 1))), (0, Value.ref h0), (1, Value.int (nI si)), (2, Value.int (nI ci)), (3, Value.int (nI cj)), (4, Value.int (nI bq))]) hx hb dX10_beside_132 hl (k := 7) rfl (nI_add kq 1) (by decide) rfl (fun ls hl => ?_)
                  refine lv_goto (tgt := 8) hx hb dX10_beside_135 (by decide) ?_
                  exact ih bq (kq + 1) (by omega) (by omega) hsp (by omega) (by omega) (by omega) (by omega) (bsl_n hbs (fun d f q => by rw [show d = (10 * (cj + 0) + (ci + 1)) by (have f1 := f.1; have f2 := f.2.1; unfold nbk at q; omega)]; show bq ≤ uN (f_steps (100 * si + (10 * (cj + 0) + (ci + 1)))); rw [show 100 * si + (10 * (cj + 0) + (ci + 1)) = 100 * si + 10 * (cj + 0) + ci + 1 by omega, Eq_113, uN_nI (by omega)]; omega)) (by omega) H locs (hP.sub [1, 0, 2, 3] rfl) (hD.sub [1, 0, 2, 3] (by decide) rfl) hS ls (lv_sub hl [3, 4, 5, 6, 7, 0] rfl)
                · skip
                  have c_114n : q_113 < bq := nb_le (by omega) (by omega) c_114
                  have c_114 := Int32.not_le.mp c_114
                  refine lv_aload_n hx hb dX10_beside_112 rfl (lv_at hl 2 rfl) ?_
                  refine va_get (D := D) (ci := 9) (v := Value.ref m_steps) (C := RX10) (T := TX10) (N := 37) hx hb hts inG_X10 hown hK hP 1 rfl rfl 35 (by decide) (hts _ kw_4_230) (fun _ h9 => h9) rfl dX10_beside_113 ?_
                  refine lv_bipush (v := 100) hx hb dX10_beside_116 (by decide) ?_
                  refine lv_iload_n hx hb dX10_beside_118 rfl (lv_at hl 3 rfl) ?_
                  refine lv_imul hx hb dX10_beside_119 ?_
                  refine lv_topi (fun z_115 ez_115 => ?_)
                  obtain rfl : z_115 = nI (100 * si) := ez_115.trans (pk_mul 100 si)
                  refine lv_bipush (v := 10) hx hb dX10_beside_120 (by decide) ?_
                  refine lv_iload hx hb dX10_beside_122 (lv_at hl 0 rfl) ?_
                  refine lv_imul hx hb dX10_beside_124 ?_
                  refine lv_topi (fun z_116 ez_116 => ?_)
                  obtain rfl : z_116 = nI (10 * (cj + 0)) := ez_116.trans (pk_mul 10 (cj + 0))
                  refine lv_iadd hx hb dX10_beside_125 ?_
                  refine lv_topi (fun z_117 ez_117 => ?_)
                  obtain rfl : z_117 = nI (100 * si + 10 * (cj + 0)) := ez_117.trans (nI_add (100 * si) (10 * (cj + 0)))
                  refine lv_iload hx hb dX10_beside_126 (lv_at hl 1 rfl) ?_
                  refine lv_iadd hx hb dX10_beside_128 ?_
                  refine lv_topi (fun z_118 ez_118 => ?_)
                  obtain rfl : z_118 = nI (100 * si + 10 * (cj + 0) + ci + 1) := ez_118.trans (nI_add (100 * si + 10 * (cj + 0)) (ci + 1))
                  refine m_iald hx hb hK hP 0 0 rfl rfl (100 * si + 10 * (cj + 0) + ci + 1) rfl (by omega) (by decide) dX10_beside_129 ?_
                  refine lv_topi (fun v_119 ev_119 => ?_)
                  obtain rfl : v_119 = nI q_113 := ev_119.trans ev_112.symm
                  refine lv_istore (lv' := [(4, Value.int (nI q_113)), (7, Value.int (nI (cj + 0))), (6, Value.int (nI (ci + 1))), (0, Value.ref h0), (1, Value.int (nI si)), (2, Value.int (nI ci)), (3, Value.int (nI cj)), (5, Value.int (nI kq))]) hx hb dX10_beside_130 hl (by decide) rfl (fun ls hl => ?_)
                  refine lv_iinc (v := nI (kq + 1)) (lv' := [(5, Value.int (nI (kq + 1))), (4, Value.int (nI q_113)), (7, Value.int (nI (cj + 0))), (6, Value.int (nI (ci + 1))), (0, Value.ref h0), (1, Value.int (nI si)), (2, Value.int (nI ci)), (3, Value.int (nI cj))]) hx hb dX10_beside_132 hl (k := 7) rfl (nI_add kq 1) (by decide) rfl (fun ls hl => ?_)
                  refine lv_goto (tgt := 8) hx hb dX10_beside_135 (by decide) ?_
                  exact ih q_113 (kq + 1) (by omega) (by omega) hsp (by omega) (by omega) (by omega) (by omega) (bsl_y (D := (10 * (cj + 0) + (ci + 1))) hbs (by omega) (by show f_steps (100 * si + (10 * (cj + 0) + (ci + 1))) = nI q_113; rw [show 100 * si + (10 * (cj + 0) + (ci + 1)) = 100 * si + 10 * (cj + 0) + ci + 1 by omega]; exact Eq_113) ⟨by omega, by omega, op_106.1, op_106.2⟩ (by unfold aj; omega) (fun d f q => by have f1 := f.1; have f2 := f.2.1; unfold nbk at q; omega)) (by omega) H locs (hP.sub [1, 0, 2, 3] rfl) (hD.sub [1, 0, 2, 3] (by decide) rfl) hS ls (lv_sub hl [4, 5, 6, 7, 1, 0] rfl)
              · skip
                subst hr9
                refine lv_if_eq (tgt := 132) hx hb dX10_beside_86 (by decide) (fun c_120 => ?_) (fun c_120 => absurd c_120 (by decide))
                refine lv_iinc (v := nI (kq + 1)) (lv' := [(5, Value.int (nI (kq + 1))), (7, Value.int (nI (cj + 0))), (6, Value.int (nI (ci + 1))), (0, Value.ref h0), (1, Value.int (nI si)), (2, Value.int (nI ci)), (3, Value.int (nI cj)), (4, Value.int (nI bq))]) hx hb dX10_beside_132 hl (k := 7) rfl (nI_add kq 1) (by decide) rfl (fun ls hl => ?_)
                refine lv_goto (tgt := 8) hx hb dX10_beside_135 (by decide) ?_
                exact ih bq (kq + 1) (by omega) (by omega) hsp (by omega) (by omega) (by omega) (by omega) (bsl_n hbs (fun d f q => by have e9 : d = (10 * (cj + 0) + (ci + 1)) := (by have f1 := f.1; have f2 := f.2.1; unfold nbk at q; omega); rw [e9] at f; exact absurd ⟨f.2.2.1, f.2.2.2⟩ op_106)) (by omega) H locs (hP.sub [1, 0, 2, 3] rfl) (hD.sub [1, 0, 2, 3] (by decide) rfl) hS ls (lv_sub hl [3, 4, 5, 6, 7, 0] rfl)
          · skip
            have c_93n : kq = 3 := (nI_eq (by omega) (by omega)).mp c_93
            exfalso; omega
        · skip
          have c_92n : kq = 2 := (nI_eq (by omega) (by omega)).mp c_92
          exfalso; omega
set_option maxHeartbeats 4000000 in
set_option maxRecDepth 100000 in
theorem t_beside (l : Launch) (D : va_G) (h0 : Nat) (m_tape : Nat) (ln : Nat) (s_thrown : Int32) (m_rule : Nat) (m_rules : Nat) (sn : Nat) (m_stair : Nat) (s_readStairs : Int32) (s_fault : Int32) (s_faultPlace : Int32) (w : Nat) (h : Nat) (m_low : Nat) (m_high : Nat) (m_crack : Nat) (bc : Nat) (m_weight : Nat) (m_fire : Nat) (m_crowd : Nat) (m_state : Nat) (m_where : Nat) (s_hours : Int32) (s_fees : Int32) (s_looks : Int32) (m_words : Nat) (s_end : Int32) (s_next : Int32) (s_kind : Int32) (s_which : Int32) (s_place : Int32) (s_read : Int32) (m_told : Nat) (m_breaks : Nat) (m_row : Nat) (m_tried : Nat) (m_steps : Nat) (m_paths : Nat) (y_steps : ClassId) (f_steps : Nat → Int32) (y_low : ClassId) (f_low : Nat → Int32) (y_crack : ClassId) (f_crack : Nat → Int32) (si : Nat) (ci : Nat) (cj : Nat) (hsi : si < 4) (hsp : rOK 10000 f_steps 400) (h3 : w ≤ 10) (h4 : h ≤ 10) (hci : ci < w) (hcj : cj < h) : cI l yX10_beside (.code yX10_beside cX10_beside 8 (some .int)) ({ frames := 1, cells := 0, slots := 0, locals := 22 }) D [(y_steps, .int), (y_low, .int), (y_crack, .boolean)] [(h0, Sum.inr (9, [Value.ref m_tape, Value.int (nI ln), Value.int s_thrown, Value.ref m_rule, Value.ref m_rules, Value.int (nI sn), Value.ref m_stair, Value.int s_readStairs, Value.int s_fault, Value.int s_faultPlace, Value.int (nI w), Value.int (nI h), Value.ref m_low, Value.ref m_high, Value.ref m_crack, Value.int (nI bc), Value.ref m_weight, Value.ref m_fire, Value.ref m_crowd, Value.ref m_state, Value.ref m_where, Value.int s_hours, Value.int s_fees, Value.int s_looks, Value.ref m_words, Value.int s_end, Value.int s_next, Value.int s_kind, Value.int s_which, Value.int s_place, Value.int s_read, Value.ref m_told, Value.ref m_breaks, Value.ref m_row, Value.ref m_tried, Value.ref m_steps, Value.ref m_paths])), (m_steps, Sum.inl (y_steps, 400, Sum.inl f_steps)), (m_low, Sum.inl (y_low, 100, Sum.inl f_low)), (m_crack, Sum.inl (y_crack, 100, Sum.inl f_crack))] xT [Value.ref h0, Value.int (nI si), Value.int (nI ci), Value.int (nI cj)] (S := Unit) (fun r _ => ∃ q : Nat, r = nI q ∧ bsd (fm w h f_low f_crack) (gsN f_steps si) (cj * 10 + ci) q) (fun _ => []) (fun _ => [(h0, Sum.inr (9, [Value.ref m_tape, Value.int (nI ln), Value.int s_thrown, Value.ref m_rule, Value.ref m_rules, Value.int (nI sn), Value.ref m_stair, Value.int s_readStairs, Value.int s_fault, Value.int s_faultPlace, Value.int (nI w), Value.int (nI h), Value.ref m_low, Value.ref m_high, Value.ref m_crack, Value.int (nI bc), Value.ref m_weight, Value.ref m_fire, Value.ref m_crowd, Value.ref m_state, Value.ref m_where, Value.int s_hours, Value.int s_fees, Value.int s_looks, Value.ref m_words, Value.int s_end, Value.int s_next, Value.int s_kind, Value.int s_which, Value.int s_place, Value.int s_read, Value.ref m_told, Value.ref m_breaks, Value.ref m_row, Value.ref m_tried, Value.ref m_steps, Value.ref m_paths])), (m_steps, Sum.inl (y_steps, 400, Sum.inl f_steps)), (m_low, Sum.inl (y_low, 100, Sum.inl f_low)), (m_crack, Sum.inl (y_crack, 100, Sum.inl f_crack))]) := by
  intro sz
  refine Met.ofW (cc := cX10_beside) (maxL := 8) (ret := (some .int)) (by decide) rfl ?_
  intro p e s m args below meth c s₁ B hml hv
  obtain ⟨rfl, hsz, hP, hK, hD0, hX⟩ := hv
  have hx := B.exec
  have hb := B.bytes
  have hr := B.returns
  have hts0 := atoms_spec (ws := .code yX10_beside cX10_beside 8 (some .int) :: gw) B.pre
  have hts := fun (w : Cond) (h : w ∈ gw) => hts0 w (List.mem_cons_of_mem _ h)
  have hown : s.vm.findClass RX10 = some m.cls := findClass_of_methodNamed B.named
  have hlocks := B.notSynchronized
  have F : mFix p s m _ c cX10_beside 8 RX10 := ⟨hx, hb, hml, hown, hts⟩
  subst hsz
  have hD := hD0.self (sz := s.heap.size)
  generalize hAe : va_A [(h0, Sum.inr (9, [Value.ref m_tape, Value.int (nI ln), Value.int s_thrown, Value.ref m_rule, Value.ref m_rules, Value.int (nI sn), Value.ref m_stair, Value.int s_readStairs, Value.int s_fault, Value.int s_faultPlace, Value.int (nI w), Value.int (nI h), Value.ref m_low, Value.ref m_high, Value.ref m_crack, Value.int (nI bc), Value.ref m_weight, Value.ref m_fire, Value.ref m_crowd, Value.ref m_state, Value.ref m_where, Value.int s_hours, Value.int s_fees, Value.int s_looks, Value.ref m_words, Value.int s_end, Value.int s_next, Value.int s_kind, Value.int s_which, Value.int s_place, Value.int s_read, Value.ref m_told, Value.ref m_breaks, Value.ref m_row, Value.ref m_tried, Value.ref m_steps, Value.ref m_paths])), (m_steps, Sum.inl (y_steps, 400, Sum.inl f_steps)), (m_low, Sum.inl (y_low, 100, Sum.inl f_low)), (m_crack, Sum.inl (y_crack, 100, Sum.inl f_crack))] s.heap.size = A at hD hX ⊢
  have hA : ∀ q : Nat, s.heap.size ≤ q → A q := fun q h => by rw [← hAe]; exact Or.inr h
  have hS : va_S A s.heap s.heap [] := va_S.rf
  have hl := lv_entry ([Value.ref h0, Value.int (nI si), Value.int (nI ci), Value.int (nI cj)]) (n := 8) (Nat.le_of_ble_eq_true rfl)
  rw [lg_entry_eq]
  generalize (lg_sl ([Value.ref h0, Value.int (nI si), Value.int (nI ci), Value.int (nI cj)]) ++ List.replicate (8 - (lg_sl ([Value.ref h0, Value.int (nI si), Value.int (nI ci), Value.int (nI cj)])).length) Slot.unset).toArray = ls at hl ⊢
  have hl : lv_has ls 8 [(0, Value.ref h0), (1, Value.int (nI si)), (2, Value.int (nI ci)), (3, Value.int (nI cj))] := hl
  have hP : va_P D vwCl [(h0, Sum.inr (9, [Value.ref m_tape, Value.int (nI ln), Value.int s_thrown, Value.ref m_rule, Value.ref m_rules, Value.int (nI sn), Value.ref m_stair, Value.int s_readStairs, Value.int s_fault, Value.int s_faultPlace, Value.int (nI w), Value.int (nI h), Value.ref m_low, Value.ref m_high, Value.ref m_crack, Value.int (nI bc), Value.ref m_weight, Value.ref m_fire, Value.ref m_crowd, Value.ref m_state, Value.ref m_where, Value.int s_hours, Value.int s_fees, Value.int s_looks, Value.ref m_words, Value.int s_end, Value.int s_next, Value.int s_kind, Value.int s_which, Value.int s_place, Value.int s_read, Value.ref m_told, Value.ref m_breaks, Value.ref m_row, Value.ref m_tried, Value.ref m_steps, Value.ref m_paths])), (m_steps, Sum.inl (y_steps, 400, Sum.inl f_steps)), (m_low, Sum.inl (y_low, 100, Sum.inl f_low)), (m_crack, Sum.inl (y_crack, 100, Sum.inl f_crack))] s.heap := hP
  refine lv_sipush (v := 9999) hx hb dX10_beside_0 (by decide) ?_
  refine lv_istore (lv' := [(4, Value.int 9999), (0, Value.ref h0), (1, Value.int (nI si)), (2, Value.int (nI ci)), (3, Value.int (nI cj))]) hx hb dX10_beside_3 hl (by decide) rfl (fun ls hl => ?_)
  refine lv_iconst (v := 0) hx hb dX10_beside_5 (by decide) ?_
  refine lv_istore (lv' := [(5, Value.int 0), (4, Value.int 9999), (0, Value.ref h0), (1, Value.int (nI si)), (2, Value.int (nI ci)), (3, Value.int (nI cj))]) hx hb dX10_beside_6 hl (by decide) rfl (fun ls hl => ?_)
  refine lp_t_beside F hA h0 m_tape ln s_thrown m_rule m_rules sn m_stair s_readStairs s_fault s_faultPlace w h m_low m_high m_crack bc m_weight m_fire m_crowd m_state m_where s_hours s_fees s_looks m_words s_end s_next s_kind s_which s_place s_read m_told m_breaks m_row m_tried m_steps m_paths y_steps f_steps y_low f_low y_crack f_crack si ci cj (hK.sub [0, 1, 2] rfl) (fun bq_1 h_2 H locs hP hD hS ls hl => ?_) _ 9999 0 (by omega) (by omega) hsp (by omega) (by omega) (by omega) (by omega) bsl_0 (Nat.lt_succ_self _) _ _ (hP.sub [0, 1, 2, 3] rfl) (hD.sub [0, 1, 2, 3] (by decide) rfl) hS ls (lv_sub hl [2, 3, 4, 5, 1, 0] rfl)
  have h_2 : bsl (fm w h f_low f_crack) (gsN f_steps si) ci cj 4 bq_1 := h_2
  refine lv_iload hx hb dX10_beside_138 (lv_at hl 0 rfl) ?_
  have hP9 := hP.sub (ws' := [(h0, Sum.inr (9, [Value.ref m_tape, Value.int (nI ln), Value.int s_thrown, Value.ref m_rule, Value.ref m_rules, Value.int (nI sn), Value.ref m_stair, Value.int s_readStairs, Value.int s_fault, Value.int s_faultPlace, Value.int (nI w), Value.int (nI h), Value.ref m_low, Value.ref m_high, Value.ref m_crack, Value.int (nI bc), Value.ref m_weight, Value.ref m_fire, Value.ref m_crowd, Value.ref m_state, Value.ref m_where, Value.int s_hours, Value.int s_fees, Value.int s_looks, Value.ref m_words, Value.int s_end, Value.int s_next, Value.int s_kind, Value.int s_which, Value.int s_place, Value.int s_read, Value.ref m_told, Value.ref m_breaks, Value.ref m_row, Value.ref m_tried, Value.ref m_steps, Value.ref m_paths])), (m_steps, Sum.inl (y_steps, 400, Sum.inl f_steps)), (m_low, Sum.inl (y_low, 100, Sum.inl f_low)), (m_crack, Sum.inl (y_crack, 100, Sum.inl f_crack))]) [0, 1, 2, 3] rfl
  have hD9 := hD.sub (ws' := [(h0, Sum.inr (9, [Value.ref m_tape, Value.int (nI ln), Value.int s_thrown, Value.ref m_rule, Value.ref m_rules, Value.int (nI sn), Value.ref m_stair, Value.int s_readStairs, Value.int s_fault, Value.int s_faultPlace, Value.int (nI w), Value.int (nI h), Value.ref m_low, Value.ref m_high, Value.ref m_crack, Value.int (nI bc), Value.ref m_weight, Value.ref m_fire, Value.ref m_crowd, Value.ref m_state, Value.ref m_where, Value.int s_hours, Value.int s_fees, Value.int s_looks, Value.ref m_words, Value.int s_end, Value.int s_next, Value.int s_kind, Value.int s_which, Value.int s_place, Value.int s_read, Value.ref m_told, Value.ref m_breaks, Value.ref m_row, Value.ref m_tried, Value.ref m_steps, Value.ref m_paths])), (m_steps, Sum.inl (y_steps, 400, Sum.inl f_steps)), (m_low, Sum.inl (y_low, 100, Sum.inl f_low)), (m_crack, Sum.inl (y_crack, 100, Sum.inl f_crack))]) [0, 1, 2, 3] (by decide) rfl
  have hK9 := hK.sub (tys' := []) [] rfl
  refine W.widen (k := 0) (n := 0) (by decide) (by decide) ?_
  exact W.iret (v := nI bq_1) hx hb hr (fun t ht hW => ⟨⟨(nI bq_1), (), rfl, ⟨_, rfl, bsl_end (by omega) h_2⟩, by rw [ht]; exact hP9, va_K.moved hW.alike hK9, hD9⟩, hS.F ht⟩) hS.2.2 dX10_beside_140
