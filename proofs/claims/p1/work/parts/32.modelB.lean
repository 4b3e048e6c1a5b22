theorem cell_out {w : Int32} (h0 : ¬ w = 0) (h1 : ¬ w = 1) (h2 : ¬ w = 2) (h3 : ¬ w = 3) (h4 : ¬ w = 4) (h5 : ¬ w = 5) : w < 0 ∨ 5 < w := by
  rcases Int32.lt_or_le w 0 with h | h
  · exact Or.inl h
  rcases Int32.lt_or_le 5 w with g | g
  · exact Or.inr g
  obtain ⟨j, hj, rfl⟩ := nI_of2 (M := 5) (n := 5) rfl (Int32.not_lt.mpr h) g
  rcases (show j = 0 ∨ j = 1 ∨ j = 2 ∨ j = 3 ∨ j = 4 ∨ j = 5 by omega) with rfl | rfl | rfl | rfl | rfl | rfl
  · exact absurd rfl h0
  · exact absurd rfl h1
  · exact absurd rfl h2
  · exact absurd rfl h3
  · exact absurd rfl h4
  · exact absurd rfl h5
theorem dX10_lay_0 : decode cX10_lay 0 = .ok (.aload_n 0, 1) := by decide +kernel
theorem dX10_lay_1 : decode cX10_lay 1 = .ok (.iconst 0, 1) := by decide +kernel
theorem dX10_lay_2 : decode cX10_lay 2 = .ok (.putfield 78, 3) := by decide +kernel
theorem dX10_lay_5 : decode cX10_lay 5 = .ok (.aload_n 0, 1) := by decide +kernel
theorem dX10_lay_6 : decode cX10_lay 6 = .ok (.iconst 0, 1) := by decide +kernel
theorem kw_4_218 : Cond.fieldLink RX10 192 "IceFairModel" "looks" "I" ∈ gw := gw_t4 (List.mem_of_getElem? (i := 218) (by decide +kernel)) (by decide +kernel)
theorem dX10_lay_7 : decode cX10_lay 7 = .ok (.putfield 192, 3) := by decide +kernel
theorem dX10_lay_10 : decode cX10_lay 10 = .ok (.iconst 0, 1) := by decide +kernel
theorem dX10_lay_11 : decode cX10_lay 11 = .ok (.istore_n 1, 1) := by decide +kernel
theorem dX10_lay_12 : decode cX10_lay 12 = .ok (.iconst 0, 1) := by decide +kernel
theorem dX10_lay_13 : decode cX10_lay 13 = .ok (.istore_n 2, 1) := by decide +kernel
theorem dX10_lay_14 : decode cX10_lay 14 = .ok (.iload_n 2, 1) := by decide +kernel
theorem dX10_lay_15 : decode cX10_lay 15 = .ok (.aload_n 0, 1) := by decide +kernel
theorem dX10_lay_16 : decode cX10_lay 16 = .ok (.getfield 146, 3) := by decide +kernel
theorem dX10_lay_19 : decode cX10_lay 19 = .ok (.if_icmp .ge 31, 3) := by decide +kernel
theorem dX10_lay_50 : decode cX10_lay 50 = .ok (.iconst 0, 1) := by decide +kernel
theorem dX10_lay_51 : decode cX10_lay 51 = .ok (.istore_n 2, 1) := by decide +kernel
theorem dX10_lay_52 : decode cX10_lay 52 = .ok (.aload_n 0, 1) := by decide +kernel
theorem dX10_lay_53 : decode cX10_lay 53 = .ok (.getfield 69, 3) := by decide +kernel
theorem dX10_lay_56 : decode cX10_lay 56 = .ok (.iconst 0, 1) := by decide +kernel
theorem dX10_lay_57 : decode cX10_lay 57 = .ok (.iconst (-1), 1) := by decide +kernel
theorem dX10_lay_58 : decode cX10_lay 58 = .ok (.iastore, 1) := by decide +kernel
theorem dX10_lay_59 : decode cX10_lay 59 = .ok (.iload_n 2, 1) := by decide +kernel
theorem dX10_lay_60 : decode cX10_lay 60 = .ok (.ifCond .lt 220, 3) := by decide +kernel
theorem dX10_lay_63 : decode cX10_lay 63 = .ok (.iload_n 2, 1) := by decide +kernel
theorem dX10_lay_64 : decode cX10_lay 64 = .ok (.iload_n 1, 1) := by decide +kernel
theorem dX10_lay_65 : decode cX10_lay 65 = .ok (.if_icmp .ge 215, 3) := by decide +kernel
theorem dX10_lay_280 : decode cX10_lay 280 = .ok (.iload_n 2, 1) := by decide +kernel
theorem dX10_lay_281 : decode cX10_lay 281 = .ok (.ifCond .ge 5, 3) := by decide +kernel
theorem dX10_lay_286 : decode cX10_lay 286 = .ok (.iconst 0, 1) := by decide +kernel
theorem dX10_lay_287 : decode cX10_lay 287 = .ok (.istore_n 3, 1) := by decide +kernel
theorem dX10_lay_288 : decode cX10_lay 288 = .ok (.iload_n 3, 1) := by decide +kernel
theorem dX10_lay_289 : decode cX10_lay 289 = .ok (.iload_n 1, 1) := by decide +kernel
theorem dX10_lay_290 : decode cX10_lay 290 = .ok (.if_icmp .ge 28, 3) := by decide +kernel
theorem dX10_lay_318 : decode cX10_lay 318 = .ok (.iload_n 1, 1) := by decide +kernel
theorem dX10_lay_319 : decode cX10_lay 319 = .ok (.ireturn, 1) := by decide +kernel
set_option maxHeartbeats 4000000 in
set_option maxRecDepth 100000 in
theorem m_lay (l : Launch) (D : va_G) (h0 : Nat) (m_tape : Nat) (m_rule : Nat) (m_rules : Nat) (m_stair : Nat) (m_low : Nat) (m_high : Nat) (m_crack : Nat) (m_weight : Nat) (m_fire : Nat) (m_crowd : Nat) (m_state : Nat) (m_where : Nat) (m_words : Nat) (m_told : Nat) (m_breaks : Nat) (m_row : Nat) (m_tried : Nat) (m_steps : Nat) (m_paths : Nat) (y_tried : ClassId) (f_tried : Nat → Int32) : cI l yX10_lay (.code yX10_lay cX10_lay 6 (some .int)) ({ frames := 3, cells := 0, slots := 0, locals := 71 }) D [(y_tried, .int)] [(h0, .inr (9, [.ref m_tape, .int 0, .int 0, .ref m_rule, .ref m_rules, .int 0, .ref m_stair, .int 0, .int 0, .int ((-1)), .int 5, .int 5, .ref m_low, .ref m_high, .ref m_crack, .int 0, .ref m_weight, .ref m_fire, .ref m_crowd, .ref m_state, .ref m_where, .int 0, .int 0, .int 0, .ref m_words, .int 0, .int 0, .int 0, .int 0, .int 0, .int 0, .ref m_told, .ref m_breaks, .ref m_row, .ref m_tried, .ref m_steps, .ref m_paths])), (m_tried, .inl (y_tried, 10, .inl f_tried))] xT [.ref h0] (S := Unit) (fun r _ => r = 0) (fun _ => []) (fun _ => []) := by
  intro sz
  refine Met.ofW (cc := cX10_lay) (maxL := 6) (ret := (some .int)) (by decide) rfl ?_
  intro p e s m args below meth c s₁ B hml hv
  obtain ⟨rfl, hsz, hP, hK, hD0, hX⟩ := hv
  have hx := B.exec
  have hb := B.bytes
  have hr := B.returns
  have hts0 := atoms_spec (ws := .code yX10_lay cX10_lay 6 (some .int) :: gw) B.pre
  have hts := fun (w : Cond) (h : w ∈ gw) => hts0 w (List.mem_cons_of_mem _ h)
  have hown : s.vm.findClass RX10 = some m.cls := findClass_of_methodNamed B.named
  have hlocks := B.notSynchronized
  have F : mFix p s m _ c cX10_lay 6 RX10 := ⟨hx, hb, hml, hown, hts⟩
  subst hsz
  have hD := hD0.self (sz := s.heap.size)
  generalize hAe : va_A [(h0, .inr (9, [.ref m_tape, .int 0, .int 0, .ref m_rule, .ref m_rules, .int 0, .ref m_stair, .int 0, .int 0, .int ((-1)), .int 5, .int 5, .ref m_low, .ref m_high, .ref m_crack, .int 0, .ref m_weight, .ref m_fire, .ref m_crowd, .ref m_state, .ref m_where, .int 0, .int 0, .int 0, .ref m_words, .int 0, .int 0, .int 0, .int 0, .int 0, .int 0, .ref m_told, .ref m_breaks, .ref m_row, .ref m_tried, .ref m_steps, .ref m_paths])), (m_tried, .inl (y_tried, 10, .inl f_tried))] s.heap.size = A at hD hX ⊢
  have hA : ∀ q : Nat, s.heap.size ≤ q → A q := fun q h => by rw [← hAe]; exact Or.inr h
  have hS : va_S A s.heap s.heap [] := va_S.rf
  have hl := lv_entry ([.ref h0]) (n := 6) (Nat.le_of_ble_eq_true rfl)
  rw [lg_entry_eq]
  generalize (lg_sl ([.ref h0]) ++ List.replicate (6 - (lg_sl ([.ref h0])).length) Slot.unset).toArray = ls at hl ⊢
  have hl : lv_has ls 6 [(0, .ref h0)] := hl
  have hP : va_P D vwCl [(h0, .inr (9, [.ref m_tape, .int 0, .int 0, .ref m_rule, .ref m_rules, .int 0, .ref m_stair, .int 0, .int 0, .int ((-1)), .int 5, .int 5, .ref m_low, .ref m_high, .ref m_crack, .int 0, .ref m_weight, .ref m_fire, .ref m_crowd, .ref m_state, .ref m_where, .int 0, .int 0, .int 0, .ref m_words, .int 0, .int 0, .int 0, .int 0, .int 0, .int 0, .ref m_told, .ref m_breaks, .ref m_row, .ref m_tried, .ref m_steps, .ref m_paths])), (m_tried, .inl (y_tried, 10, .inl f_tried))] s.heap := hP
  refine lv_aload_n hx hb dX10_lay_0 rfl (lv_at hl 0 rfl) ?_
  refine lv_iconst (v := 0) hx hb dX10_lay_1 (by decide) ?_
  refine va_put (D := D) (ci := 9) (v := .int 0) (ty := .int) (C := RX10) (T := TX10) (N := 37) hx hb hts inG_X10 tyX10 tyX10_ok nmX10 hown hK hP hD hS 0 rfl rfl 2 (by decide) (hts _ kw_4_197) (fun _ h9 => h9) rfl (by decide +kernel) rfl rfl (Nat.le_of_ble_eq_true rfl) dX10_lay_2 (fun H locs hP hD hS => ?_)
  have hP : va_P D vwCl [(h0, .inr (9, [.ref m_tape, .int 0, .int 0, .ref m_rule, .ref m_rules, .int 0, .ref m_stair, .int 0, .int 0, .int ((-1)), .int 5, .int 5, .ref m_low, .ref m_high, .ref m_crack, .int 0, .ref m_weight, .ref m_fire, .ref m_crowd, .ref m_state, .ref m_where, .int 0, .int 0, .int 0, .ref m_words, .int 0, .int 0, .int 0, .int 0, .int 0, .int 0, .ref m_told, .ref m_breaks, .ref m_row, .ref m_tried, .ref m_steps, .ref m_paths])), (m_tried, .inl (y_tried, 10, .inl f_tried))] H := hP
  have hD : va_D A [(h0, .inr (9, [.ref m_tape, .int 0, .int 0, .ref m_rule, .ref m_rules, .int 0, .ref m_stair, .int 0, .int 0, .int ((-1)), .int 5, .int 5, .ref m_low, .ref m_high, .ref m_crack, .int 0, .ref m_weight, .ref m_fire, .ref m_crowd, .ref m_state, .ref m_where, .int 0, .int 0, .int 0, .ref m_words, .int 0, .int 0, .int 0, .int 0, .int 0, .int 0, .ref m_told, .ref m_breaks, .ref m_row, .ref m_tried, .ref m_steps, .ref m_paths])), (m_tried, .inl (y_tried, 10, .inl f_tried))] := hD
  refine lv_aload_n hx hb dX10_lay_5 rfl (lv_at hl 0 rfl) ?_
  refine lv_iconst (v := 0) hx hb dX10_lay_6 (by decide) ?_
  refine va_put (D := D) (ci := 9) (v := .int 0) (ty := .int) (C := RX10) (T := TX10) (N := 37) hx hb hts inG_X10 tyX10 tyX10_ok nmX10 hown hK hP hD hS 0 rfl rfl 23 (by decide) (hts _ kw_4_218) (fun _ h9 => h9) rfl (by decide +kernel) rfl rfl (Nat.le_of_ble_eq_true rfl) dX10_lay_7 (fun H locs hP hD hS => ?_)
  have hP : va_P D vwCl [(h0, .inr (9, [.ref m_tape, .int 0, .int 0, .ref m_rule, .ref m_rules, .int 0, .ref m_stair, .int 0, .int 0, .int ((-1)), .int 5, .int 5, .ref m_low, .ref m_high, .ref m_crack, .int 0, .ref m_weight, .ref m_fire, .ref m_crowd, .ref m_state, .ref m_where, .int 0, .int 0, .int 0, .ref m_words, .int 0, .int 0, .int 0, .int 0, .int 0, .int 0, .ref m_told, .ref m_breaks, .ref m_row, .ref m_tried, .ref m_steps, .ref m_paths])), (m_tried, .inl (y_tried, 10, .inl f_tried))] H := hP
  have hD : va_D A [(h0, .inr (9, [.ref m_tape, .int 0, .int 0, .ref m_rule, .ref m_rules, .int 0, .ref m_stair, .int 0, .int 0, .int ((-1)), .int 5, .int 5, .ref m_low, .ref m_high, .ref m_crack, .int 0, .ref m_weight, .ref m_fire, .ref m_crowd, .ref m_state, .ref m_where, .int 0, .int 0, .int 0, .ref m_words, .int 0, .int 0, .int 0, .int 0, .int 0, .int 0, .ref m_told, .ref m_breaks, .ref m_row, .ref m_tried, .ref m_steps, .ref m_paths])), (m_tried, .inl (y_tried, 10, .inl f_tried))] := hD
  refine lv_iconst (v := 0) hx hb dX10_lay_10 (by decide) ?_
  refine lv_istore_n (lv' := [(1, .int 0), (0, .ref h0)]) hx hb dX10_lay_11 rfl hl (by decide) rfl (fun ls hl => ?_)
  refine lv_iconst (v := 0) hx hb dX10_lay_12 (by decide) ?_
  refine lv_istore_n (lv' := [(2, .int 0), (1, .int 0), (0, .ref h0)]) hx hb dX10_lay_13 rfl hl (by decide) rfl (fun ls hl => ?_)
  refine lv_iload_n hx hb dX10_lay_14 rfl (lv_at hl 0 rfl) ?_
  refine lv_aload_n hx hb dX10_lay_15 rfl (lv_at hl 2 rfl) ?_
  refine va_get (D := D) (ci := 9) (v := .int 0) (C := RX10) (T := TX10) (N := 37) hx hb hts inG_X10 hown hK hP 0 rfl rfl 15 (by decide) (hts _ kw_4_210) (fun _ h9 => h9) rfl dX10_lay_16 ?_
  refine lv_icmp_ge (tgt := 50) hx hb dX10_lay_19 (by decide) (fun c_1 => ?_) (fun c_1 => absurd c_1 (by decide))
  refine lv_iconst (v := 0) hx hb dX10_lay_50 (by decide) ?_
  refine lv_istore_n (lv' := [(2, .int 0), (1, .int 0), (0, .ref h0)]) hx hb dX10_lay_51 rfl hl (by decide) rfl (fun ls hl => ?_)
  refine lv_aload_n hx hb dX10_lay_52 rfl (lv_at hl 2 rfl) ?_
  refine va_get (D := D) (ci := 9) (v := .ref m_tried) (C := RX10) (T := TX10) (N := 37) hx hb hts inG_X10 hown hK hP 0 rfl rfl 34 (by decide) (hts _ kw_4_229) (fun _ h9 => h9) rfl dX10_lay_53 ?_
  refine lv_iconst (v := 0) hx hb dX10_lay_56 (by decide) ?_
  refine lv_iconst (v := -1) hx hb dX10_lay_57 (by decide) ?_
  refine m_iast hx hb hK hP hD hS 1 0 rfl rfl 0 rfl (by decide) (by decide) dX10_lay_58 (fun g_2 H locs eg_2 hP hD hS => ?_)
  have hP : va_P D vwCl [(h0, .inr (9, [.ref m_tape, .int 0, .int 0, .ref m_rule, .ref m_rules, .int 0, .ref m_stair, .int 0, .int 0, .int ((-1)), .int 5, .int 5, .ref m_low, .ref m_high, .ref m_crack, .int 0, .ref m_weight, .ref m_fire, .ref m_crowd, .ref m_state, .ref m_where, .int 0, .int 0, .int 0, .ref m_words, .int 0, .int 0, .int 0, .int 0, .int 0, .int 0, .ref m_told, .ref m_breaks, .ref m_row, .ref m_tried, .ref m_steps, .ref m_paths])), (m_tried, .inl (y_tried, 10, .inl g_2))] H := hP
  have hD : va_D A [(h0, .inr (9, [.ref m_tape, .int 0, .int 0, .ref m_rule, .ref m_rules, .int 0, .ref m_stair, .int 0, .int 0, .int ((-1)), .int 5, .int 5, .ref m_low, .ref m_high, .ref m_crack, .int 0, .ref m_weight, .ref m_fire, .ref m_crowd, .ref m_state, .ref m_where, .int 0, .int 0, .int 0, .ref m_words, .int 0, .int 0, .int 0, .int 0, .int 0, .int 0, .ref m_told, .ref m_breaks, .ref m_row, .ref m_tried, .ref m_steps, .ref m_paths])), (m_tried, .inl (y_tried, 10, .inl g_2))] := hD
  refine lv_iload_n hx hb dX10_lay_59 rfl (lv_at hl 0 rfl) ?_
  refine lv_if_lt (tgt := 280) hx hb dX10_lay_60 (by decide) (fun c_3 => absurd c_3 (by decide)) (fun c_3 => ?_)
  refine lv_iload_n hx hb dX10_lay_63 rfl (lv_at hl 0 rfl) ?_
  refine lv_iload_n hx hb dX10_lay_64 rfl (lv_at hl 1 rfl) ?_
  refine lv_icmp_ge (tgt := 280) hx hb dX10_lay_65 (by decide) (fun c_4 => ?_) (fun c_4 => absurd c_4 (by decide))
  refine lv_iload_n hx hb dX10_lay_280 rfl (lv_at hl 0 rfl) ?_
  refine lv_if_ge (tgt := 286) hx hb dX10_lay_281 (by decide) (fun c_5 => ?_) (fun c_5 => absurd c_5 (by decide))
  refine lv_iconst (v := 0) hx hb dX10_lay_286 (by decide) ?_
  refine lv_istore_n (lv' := [(3, .int 0), (2, .int 0), (1, .int 0), (0, .ref h0)]) hx hb dX10_lay_287 rfl hl (by decide) rfl (fun ls hl => ?_)
  refine lv_iload_n hx hb dX10_lay_288 rfl (lv_at hl 0 rfl) ?_
  refine lv_iload_n hx hb dX10_lay_289 rfl (lv_at hl 2 rfl) ?_
  refine lv_icmp_ge (tgt := 318) hx hb dX10_lay_290 (by decide) (fun c_6 => ?_) (fun c_6 => absurd c_6 (by decide))
  refine lv_iload_n hx hb dX10_lay_318 rfl (lv_at hl 2 rfl) ?_
  have hP9 := hP.sub (ws' := []) [] rfl
  have hD9 := hD.sub (ws' := []) [] (by decide) rfl
  have hK9 := hK.sub (tys' := []) [] rfl
  refine W.widen (k := 0) (n := 0) (by decide) (by decide) ?_
  exact W.iret (v := 0) hx hb hr (fun t ht hW => ⟨⟨0, (), rfl, rfl, by rw [ht]; exact hP9, va_K.moved hW.alike hK9, hD9⟩, hS.F ht⟩) hS.2.2 dX10_lay_319
theorem dX10_walks_2 : decode cX10_walks 2 = .ok (.iload_n 1, 1) := by decide +kernel
theorem dX10_walks_3 : decode cX10_walks 3 = .ok (.sipush 400, 3) := by decide +kernel
theorem dX10_walks_6 : decode cX10_walks 6 = .ok (.if_icmp .ge 18, 3) := by decide +kernel
theorem dX10_walks_9 : decode cX10_walks 9 = .ok (.aload_n 0, 1) := by decide +kernel
theorem dX10_walks_10 : decode cX10_walks 10 = .ok (.getfield 72, 3) := by decide +kernel
theorem dX10_walks_13 : decode cX10_walks 13 = .ok (.iload_n 1, 1) := by decide +kernel
theorem dX10_walks_14 : decode cX10_walks 14 = .ok (.sipush 9999, 3) := by decide +kernel
theorem dX10_walks_17 : decode cX10_walks 17 = .ok (.iastore, 1) := by decide +kernel
theorem dX10_walks_18 : decode cX10_walks 18 = .ok (.iinc 1 1, 3) := by decide +kernel
theorem dX10_walks_21 : decode cX10_walks 21 = .ok (.goto (-19), 3) := by decide +kernel
set_option maxHeartbeats 4000000 in
set_option maxRecDepth 100000 in
theorem lp_m_walks0 {p : Program} {l : Launch} {e : Env} {s : State} {m : MethodId} {args : Array Value} {below : List Frame} {meth : Method} {c : Code} {Q : State → Prop} {A : Nat → Prop} {D : va_G} (F : mFix p s m args c cX10_walks 6 RX10) (hA : ∀ q, s.heap.size ≤ q → A q) (h0 : Nat) (m_tape : Nat) (m_rule : Nat) (m_rules : Nat) (m_stair : Nat) (m_low : Nat) (m_high : Nat) (m_crack : Nat) (m_weight : Nat) (m_fire : Nat) (m_crowd : Nat) (m_state : Nat) (m_where : Nat) (m_words : Nat) (m_told : Nat) (m_breaks : Nat) (m_row : Nat) (m_tried : Nat) (m_steps : Nat) (m_paths : Nat) (y_steps : ClassId) (s_tapeSize : Int32) (s_thrown : Int32) (s_readStairs : Int32) (s_fault : Int32) (s_faultPlace : Int32) (s_wide : Int32) (s_tall : Int32) (s_booths : Int32) (s_hours : Int32) (s_fees : Int32) (s_looks : Int32) (s_end : Int32) (s_next : Int32) (s_kind : Int32) (s_which : Int32) (s_place : Int32) (s_read : Int32) (hK : va_K D vwCl [(y_steps, .int)] s)
    (kx_24 : ∀ (g : Nat → Int32), ∀ (H : Heap) (locs : List Loc), va_P D vwCl [(h0, .inr (9, [.ref m_tape, .int s_tapeSize, .int s_thrown, .ref m_rule, .ref m_rules, .int 0, .ref m_stair, .int s_readStairs, .int s_fault, .int s_faultPlace, .int s_wide, .int s_tall, .ref m_low, .ref m_high, .ref m_crack, .int s_booths, .ref m_weight, .ref m_fire, .ref m_crowd, .ref m_state, .ref m_where, .int s_hours, .int s_fees, .int s_looks, .ref m_words, .int s_end, .int s_next, .int s_kind, .int s_which, .int s_place, .int s_read, .ref m_told, .ref m_breaks, .ref m_row, .ref m_tried, .ref m_steps, .ref m_paths])), (m_steps, .inl (y_steps, 400, .inl g))] H → va_D A [(h0, .inr (9, [.ref m_tape, .int s_tapeSize, .int s_thrown, .ref m_rule, .ref m_rules, .int 0, .ref m_stair, .int s_readStairs, .int s_fault, .int s_faultPlace, .int s_wide, .int s_tall, .ref m_low, .ref m_high, .ref m_crack, .int s_booths, .ref m_weight, .ref m_fire, .ref m_crowd, .ref m_state, .ref m_where, .int s_hours, .int s_fees, .int s_looks, .ref m_words, .int s_end, .int s_next, .int s_kind, .int s_which, .int s_place, .int s_read, .ref m_told, .ref m_breaks, .ref m_row, .ref m_tried, .ref m_steps, .ref m_paths])), (m_steps, .inl (y_steps, 400, .inl g))] → va_S A s.heap H locs → ∀ ls : Array Slot, lv_has ls 6 [(0, .ref h0)] → W p l e ({ frames := 2, cells := 0, slots := 0, locals := 49 }) s m args below meth c H locs 0 0 Q (F0 m 24 ls [])) :
    ∀ n : Nat, ∀ (g : Nat → Int32) (i : Nat), (i ≤ 400) → (400 - i) < n → ∀ (H : Heap) (locs : List Loc), va_P D vwCl [(h0, .inr (9, [.ref m_tape, .int s_tapeSize, .int s_thrown, .ref m_rule, .ref m_rules, .int 0, .ref m_stair, .int s_readStairs, .int s_fault, .int s_faultPlace, .int s_wide, .int s_tall, .ref m_low, .ref m_high, .ref m_crack, .int s_booths, .ref m_weight, .ref m_fire, .ref m_crowd, .ref m_state, .ref m_where, .int s_hours, .int s_fees, .int s_looks, .ref m_words, .int s_end, .int s_next, .int s_kind, .int s_which, .int s_place, .int s_read, .ref m_told, .ref m_breaks, .ref m_row, .ref m_tried, .ref m_steps, .ref m_paths])), (m_steps, .inl (y_steps, 400, .inl g))] H → va_D A [(h0, .inr (9, [.ref m_tape, .int s_tapeSize, .int s_thrown, .ref m_rule, .ref m_rules, .int 0, .ref m_stair, .int s_readStairs, .int s_fault, .int s_faultPlace, .int s_wide, .int s_tall, .ref m_low, .ref m_high, .ref m_crack, .int s_booths, .ref m_weight, .ref m_fire, .ref m_crowd, .ref m_state, .ref m_where, .int s_hours, .int s_fees, .int s_looks, .ref m_words, .int s_end, .int s_next, .int s_kind, .int s_which, .int s_place, .int s_read, .ref m_told, .ref m_breaks, .ref m_row, .ref m_tried, .ref m_steps, .ref m_paths])), (m_steps, .inl (y_steps, 400, .inl g))] → va_S A s.heap H locs → ∀ ls : Array Slot, lv_has ls 6 [(0, .ref h0), (1, .int (nI i))] → W p l e ({ frames := 2, cells := 0, slots := 0, locals := 49 }) s m args below meth c H locs 0 0 Q (F0 m 2 ls []) := by
  intro n
  induction n with
  | zero => intro g i hi hn; exact absurd hn (Nat.not_lt_zero _)
  | succ n ih =>
    intro g i hi hn H locs hP hD hS ls hl
    obtain ⟨hx, hb, hml, hown, hts⟩ := id F
    refine lv_iload_n hx hb dX10_walks_2 rfl (lv_at hl 1 rfl) ?_
    refine lv_sipush (v := 400) hx hb dX10_walks_3 (by decide) ?_
    refine lv_icmp_ge (tgt := 24) hx hb dX10_walks_6 (by decide) (fun c_1 => ?_) (fun c_1 => ?_)
    · skip
      have c_1n : 400 ≤ i := (nI_leI (by omega) (by omega)).mp c_1
      have c_1 := Int32.not_lt.mpr c_1
      exact kx_24 g  H locs (hP.sub [0, 1] rfl) (hD.sub [0, 1] (by decide) rfl) hS ls (lv_sub hl [0] rfl)
    · skip
      have c_1n : i < 400 := nb_le (by omega) (by omega) c_1
      have c_1 := Int32.not_le.mp c_1
      refine lv_aload_n hx hb dX10_walks_9 rfl (lv_at hl 0 rfl) ?_
      refine va_get (D := D) (ci := 9) (v := .ref m_steps) (C := RX10) (T := TX10) (N := 37) hx hb hts inG_X10 hown hK hP 0 rfl rfl 35 (by decide) (hts _ kw_4_230) (fun _ h9 => h9) rfl dX10_walks_10 ?_
      refine lv_iload_n hx hb dX10_walks_13 rfl (lv_at hl 1 rfl) ?_
      refine lv_sipush (v := 9999) hx hb dX10_walks_14 (by decide) ?_
      refine m_iast hx hb hK hP hD hS 1 0 rfl rfl i rfl (by omega) (by decide) dX10_walks_17 (fun g_2 H locs eg_2 hP hD hS => ?_)
      have hP : va_P D vwCl [(h0, .inr (9, [.ref m_tape, .int s_tapeSize, .int s_thrown, .ref m_rule, .ref m_rules, .int 0, .ref m_stair, .int s_readStairs, .int s_fault, .int s_faultPlace, .int s_wide, .int s_tall, .ref m_low, .ref m_high, .ref m_crack, .int s_booths, .ref m_weight, .ref m_fire, .ref m_crowd, .ref m_state, .ref m_where, .int s_hours, .int s_fees, .int s_looks, .ref m_words, .int s_end, .int s_next, .int s_kind, .int s_which, .int s_place, .int s_read, .ref m_told, .ref m_breaks, .ref m_row, .ref m_tried, .ref m_steps, .ref m_paths])), (m_steps, .inl (y_steps, 400, .inl g_2))] H := hP
      have hD : va_D A [(h0, .inr (9, [.ref m_tape, .int s_tapeSize, .int s_thrown, .ref m_rule, .ref m_rules, .int 0, .ref m_stair, .int s_readStairs, .int s_fault, .int s_faultPlace, .int s_wide, .int s_tall, .ref m_low, .ref m_high, .ref m_crack, .int s_booths, .ref m_weight, .ref m_fire, .ref m_crowd, .ref m_state, .ref m_where, .int s_hours, .int s_fees, .int s_looks, .ref m_words, .int s_end, .int s_next, .int s_kind, .int s_which, .int s_place, .int s_read, .ref m_told, .ref m_breaks, .ref m_row, .ref m_tried, .ref m_steps, .ref m_paths])), (m_steps, .inl (y_steps, 400, .inl g_2))] := hD
      refine lv_iinc (v := nI (i + 1)) (lv' := [(1, .int (nI (i + 1))), (0, .ref h0)]) hx hb dX10_walks_18 hl (k := 1) rfl (nI_add i 1) (by decide) rfl (fun ls hl => ?_)
      refine lv_goto (tgt := 2) hx hb dX10_walks_21 (by decide) ?_
      exact ih g_2 (i + 1) (by omega) (by omega) H locs (hP.sub [0, 1] rfl) (hD.sub [0, 1] (by decide) rfl) hS ls (lv_sub hl [1, 0] rfl)
theorem dX10_walks_0 : decode cX10_walks 0 = .ok (.iconst 0, 1) := by decide +kernel
theorem dX10_walks_1 : decode cX10_walks 1 = .ok (.istore_n 1, 1) := by decide +kernel
theorem dX10_walks_24 : decode cX10_walks 24 = .ok (.iconst 0, 1) := by decide +kernel
theorem dX10_walks_25 : decode cX10_walks 25 = .ok (.istore_n 1, 1) := by decide +kernel
theorem dX10_walks_26 : decode cX10_walks 26 = .ok (.iload_n 1, 1) := by decide +kernel
theorem dX10_walks_27 : decode cX10_walks 27 = .ok (.aload_n 0, 1) := by decide +kernel
theorem dX10_walks_28 : decode cX10_walks 28 = .ok (.getfield 143, 3) := by decide +kernel
theorem dX10_walks_31 : decode cX10_walks 31 = .ok (.if_icmp .ge 156, 3) := by decide +kernel
theorem dX10_walks_187 : decode cX10_walks 187 = .ok (.return_, 1) := by decide +kernel
set_option maxHeartbeats 4000000 in
set_option maxRecDepth 100000 in
theorem m_walks0 (l : Launch) (D : va_G) (h0 : Nat) (m_tape : Nat) (m_rule : Nat) (m_rules : Nat) (m_stair : Nat) (m_low : Nat) (m_high : Nat) (m_crack : Nat) (m_weight : Nat) (m_fire : Nat) (m_crowd : Nat) (m_state : Nat) (m_where : Nat) (m_words : Nat) (m_told : Nat) (m_breaks : Nat) (m_row : Nat) (m_tried : Nat) (m_steps : Nat) (m_paths : Nat) (y_steps : ClassId) (f_steps : Nat → Int32) (s_tapeSize : Int32) (s_thrown : Int32) (s_readStairs : Int32) (s_fault : Int32) (s_faultPlace : Int32) (s_wide : Int32) (s_tall : Int32) (s_booths : Int32) (s_hours : Int32) (s_fees : Int32) (s_looks : Int32) (s_end : Int32) (s_next : Int32) (s_kind : Int32) (s_which : Int32) (s_place : Int32) (s_read : Int32) : cV l yX10_walks (.code yX10_walks cX10_walks 6 none) ({ frames := 2, cells := 0, slots := 0, locals := 49 }) D [(y_steps, .int)] [(h0, .inr (9, [.ref m_tape, .int s_tapeSize, .int s_thrown, .ref m_rule, .ref m_rules, .int 0, .ref m_stair, .int s_readStairs, .int s_fault, .int s_faultPlace, .int s_wide, .int s_tall, .ref m_low, .ref m_high, .ref m_crack, .int s_booths, .ref m_weight, .ref m_fire, .ref m_crowd, .ref m_state, .ref m_where, .int s_hours, .int s_fees, .int s_looks, .ref m_words, .int s_end, .int s_next, .int s_kind, .int s_which, .int s_place, .int s_read, .ref m_told, .ref m_breaks, .ref m_row, .ref m_tried, .ref m_steps, .ref m_paths])), (m_steps, .inl (y_steps, 400, .inl f_steps))] xT [.ref h0] (S := Nat → Int32) (fun u => match u with | g => True) (fun u => match u with | g => []) (fun u => match u with | g => [(h0, .inr (9, [.ref m_tape, .int s_tapeSize, .int s_thrown, .ref m_rule, .ref m_rules, .int 0, .ref m_stair, .int s_readStairs, .int s_fault, .int s_faultPlace, .int s_wide, .int s_tall, .ref m_low, .ref m_high, .ref m_crack, .int s_booths, .ref m_weight, .ref m_fire, .ref m_crowd, .ref m_state, .ref m_where, .int s_hours, .int s_fees, .int s_looks, .ref m_words, .int s_end, .int s_next, .int s_kind, .int s_which, .int s_place, .int s_read, .ref m_told, .ref m_breaks, .ref m_row, .ref m_tried, .ref m_steps, .ref m_paths])), (m_steps, .inl (y_steps, 400, .inl g))]) := by
  intro sz
  refine Met.ofW (cc := cX10_walks) (maxL := 6) (ret := none) (by decide) rfl ?_
  intro p e s m args below meth c s₁ B hml hv
  obtain ⟨rfl, hsz, hP, hK, hD0, hX⟩ := hv
  have hx := B.exec
  have hb := B.bytes
  have hr := B.returns
  have hts0 := atoms_spec (ws := .code yX10_walks cX10_walks 6 none :: gw) B.pre
  have hts := fun (w : Cond) (h : w ∈ gw) => hts0 w (List.mem_cons_of_mem _ h)
  have hown : s.vm.findClass RX10 = some m.cls := findClass_of_methodNamed B.named
  have hlocks := B.notSynchronized
  have F : mFix p s m _ c cX10_walks 6 RX10 := ⟨hx, hb, hml, hown, hts⟩
  subst hsz
  have hD := hD0.self (sz := s.heap.size)
  generalize hAe : va_A [(h0, .inr (9, [.ref m_tape, .int s_tapeSize, .int s_thrown, .ref m_rule, .ref m_rules, .int 0, .ref m_stair, .int s_readStairs, .int s_fault, .int s_faultPlace, .int s_wide, .int s_tall, .ref m_low, .ref m_high, .ref m_crack, .int s_booths, .ref m_weight, .ref m_fire, .ref m_crowd, .ref m_state, .ref m_where, .int s_hours, .int s_fees, .int s_looks, .ref m_words, .int s_end, .int s_next, .int s_kind, .int s_which, .int s_place, .int s_read, .ref m_told, .ref m_breaks, .ref m_row, .ref m_tried, .ref m_steps, .ref m_paths])), (m_steps, .inl (y_steps, 400, .inl f_steps))] s.heap.size = A at hD hX ⊢
  have hA : ∀ q : Nat, s.heap.size ≤ q → A q := fun q h => by rw [← hAe]; exact Or.inr h
  have hS : va_S A s.heap s.heap [] := va_S.rf
  have hl := lv_entry ([.ref h0]) (n := 6) (Nat.le_of_ble_eq_true rfl)
  rw [lg_entry_eq]
  generalize (lg_sl ([.ref h0]) ++ List.replicate (6 - (lg_sl ([.ref h0])).length) Slot.unset).toArray = ls at hl ⊢
  have hl : lv_has ls 6 [(0, .ref h0)] := hl
  have hP : va_P D vwCl [(h0, .inr (9, [.ref m_tape, .int s_tapeSize, .int s_thrown, .ref m_rule, .ref m_rules, .int 0, .ref m_stair, .int s_readStairs, .int s_fault, .int s_faultPlace, .int s_wide, .int s_tall, .ref m_low, .ref m_high, .ref m_crack, .int s_booths, .ref m_weight, .ref m_fire, .ref m_crowd, .ref m_state, .ref m_where, .int s_hours, .int s_fees, .int s_looks, .ref m_words, .int s_end, .int s_next, .int s_kind, .int s_which, .int s_place, .int s_read, .ref m_told, .ref m_breaks, .ref m_row, .ref m_tried, .ref m_steps, .ref m_paths])), (m_steps, .inl (y_steps, 400, .inl f_steps))] s.heap := hP
  refine lv_iconst (v := 0) hx hb dX10_walks_0 (by decide) ?_
  refine lv_istore_n (lv' := [(1, .int 0), (0, .ref h0)]) hx hb dX10_walks_1 rfl hl (by decide) rfl (fun ls hl => ?_)
  refine lp_m_walks0 F hA h0 m_tape m_rule m_rules m_stair m_low m_high m_crack m_weight m_fire m_crowd m_state m_where m_words m_told m_breaks m_row m_tried m_steps m_paths y_steps s_tapeSize s_thrown s_readStairs s_fault s_faultPlace s_wide s_tall s_booths s_hours s_fees s_looks s_end s_next s_kind s_which s_place s_read (hK.sub [0] rfl) (fun g_1  H locs hP hD hS ls hl => ?_) _ f_steps 0 (by omega) (Nat.lt_succ_self _) _ _ (hP.sub [0, 1] rfl) (hD.sub [0, 1] (by decide) rfl) hS ls (lv_sub hl [1, 0] rfl)
  refine lv_iconst (v := 0) hx hb dX10_walks_24 (by decide) ?_
  refine lv_istore_n (lv' := [(1, .int 0), (0, .ref h0)]) hx hb dX10_walks_25 rfl hl (by decide) rfl (fun ls hl => ?_)
  refine lv_iload_n hx hb dX10_walks_26 rfl (lv_at hl 0 rfl) ?_
  refine lv_aload_n hx hb dX10_walks_27 rfl (lv_at hl 1 rfl) ?_
  refine va_get (D := D) (ci := 9) (v := .int 0) (C := RX10) (T := TX10) (N := 37) hx hb hts inG_X10 hown hK hP 0 rfl rfl 5 (by decide) (hts _ kw_4_200) (fun _ h9 => h9) rfl dX10_walks_28 ?_
  refine lv_icmp_ge (tgt := 187) hx hb dX10_walks_31 (by decide) (fun c_2 => ?_) (fun c_2 => absurd c_2 (by decide))
  have hP9 := hP.sub (ws' := [(h0, .inr (9, [.ref m_tape, .int s_tapeSize, .int s_thrown, .ref m_rule, .ref m_rules, .int 0, .ref m_stair, .int s_readStairs, .int s_fault, .int s_faultPlace, .int s_wide, .int s_tall, .ref m_low, .ref m_high, .ref m_crack, .int s_booths, .ref m_weight, .ref m_fire, .ref m_crowd, .ref m_state, .ref m_where, .int s_hours, .int s_fees, .int s_looks, .ref m_words, .int s_end, .int s_next, .int s_kind, .int s_which, .int s_place, .int s_read, .ref m_told, .ref m_breaks, .ref m_row, .ref m_tried, .ref m_steps, .ref m_paths])), (m_steps, .inl (y_steps, 400, .inl g_1))]) [0, 1] rfl
  have hD9 := hD.sub (ws' := [(h0, .inr (9, [.ref m_tape, .int s_tapeSize, .int s_thrown, .ref m_rule, .ref m_rules, .int 0, .ref m_stair, .int s_readStairs, .int s_fault, .int s_faultPlace, .int s_wide, .int s_tall, .ref m_low, .ref m_high, .ref m_crack, .int s_booths, .ref m_weight, .ref m_fire, .ref m_crowd, .ref m_state, .ref m_where, .int s_hours, .int s_fees, .int s_looks, .ref m_words, .int s_end, .int s_next, .int s_kind, .int s_which, .int s_place, .int s_read, .ref m_told, .ref m_breaks, .ref m_row, .ref m_tried, .ref m_steps, .ref m_paths])), (m_steps, .inl (y_steps, 400, .inl g_1))]) [0, 1] (by decide) rfl
  have hK9 := hK.sub (tys' := []) [] rfl
  refine W.widen (k := 0) (n := 0) (by decide) (by decide) ?_
  exact W.vret hx hb hr (fun t ht hW => ⟨⟨g_1, rfl, trivial, by rw [ht]; exact hP9, va_K.moved hW.alike hK9, hD9⟩, hS.F ht⟩) hS.2.2 dX10_walks_187
theorem dX10_pathAll_0 : decode cX10_pathAll 0 = .ok (.aload_n 0, 1) := by decide +kernel
theorem kw_5_208 : Cond.methodLink RX10 202 yX10_walks ∈ gw := gw_t5 (List.mem_of_getElem? (i := 208) (by decide +kernel)) (by decide +kernel)
theorem kw_5_210 : Cond.instanceMethod yX10_walks ∈ gw := gw_t5 (List.mem_of_getElem? (i := 210) (by decide +kernel)) (by decide +kernel)
theorem ks_4_6 : Cond.selects RX10 yX10_walks yX10_walks ∈ gw := gw_s (y := yX10_walks) (n := 37) (List.mem_append_right _ (List.mem_append_right _ (List.mem_append_right _ (List.mem_of_getElem? (i := 6) (by decide +kernel)))))
theorem kw_5_211 : Cond.code yX10_walks cX10_walks 6 none ∈ gw := gw_t5 (List.mem_of_getElem? (i := 211) (by decide +kernel)) (by decide +kernel)
theorem gk_X10_202 : GoodIn gw (wsV RX10 202 RX10 yX10_walks (.code yX10_walks cX10_walks 6 none :: gw)) ∧ (yX10_walks.cls = RX10 ∧ yX10_walks.cls ≠ "java/lang/invoke/MethodHandle" ∧ yX10_walks.cls ≠ "java/lang/invoke/VarHandle" ∧ (parseMethodDescriptor yX10_walks.desc).map (fun d => d.parameters.length) = some 0) := ⟨gi_V kw_5_208 kw_5_210 ks_4_6 kw_1_11 kw_5_211, by decide +kernel⟩
theorem dX10_pathAll_1 : decode cX10_pathAll 1 = .ok (.invokevirtual 202, 3) := by decide +kernel
theorem dX10_pathAll_4 : decode cX10_pathAll 4 = .ok (.iconst 0, 1) := by decide +kernel
theorem dX10_pathAll_5 : decode cX10_pathAll 5 = .ok (.istore_n 1, 1) := by decide +kernel
theorem dX10_pathAll_6 : decode cX10_pathAll 6 = .ok (.iload_n 1, 1) := by decide +kernel
theorem dX10_pathAll_7 : decode cX10_pathAll 7 = .ok (.aload_n 0, 1) := by decide +kernel
theorem dX10_pathAll_8 : decode cX10_pathAll 8 = .ok (.getfield 146, 3) := by decide +kernel
theorem dX10_pathAll_11 : decode cX10_pathAll 11 = .ok (.if_icmp .ge 51, 3) := by decide +kernel
theorem dX10_pathAll_62 : decode cX10_pathAll 62 = .ok (.return_, 1) := by decide +kernel
set_option maxHeartbeats 4000000 in
set_option maxRecDepth 100000 in
theorem m_pathAll0 (l : Launch) (D : va_G) (h0 : Nat) (m_tape : Nat) (m_rule : Nat) (m_rules : Nat) (m_stair : Nat) (m_low : Nat) (m_high : Nat) (m_crack : Nat) (m_weight : Nat) (m_fire : Nat) (m_crowd : Nat) (m_state : Nat) (m_where : Nat) (m_words : Nat) (m_told : Nat) (m_breaks : Nat) (m_row : Nat) (m_tried : Nat) (m_steps : Nat) (m_paths : Nat) (y_steps : ClassId) (f_steps : Nat → Int32) (s_tapeSize : Int32) (s_thrown : Int32) (s_readStairs : Int32) (s_fault : Int32) (s_faultPlace : Int32) (s_wide : Int32) (s_tall : Int32) (s_hours : Int32) (s_fees : Int32) (s_looks : Int32) (s_end : Int32) (s_next : Int32) (s_kind : Int32) (s_which : Int32) (s_place : Int32) (s_read : Int32) : cV l yX10_pathAll (.code yX10_pathAll cX10_pathAll 3 none) ({ frames := 3, cells := 0, slots := 0, locals := 74 }) D [(y_steps, .int)] [(h0, .inr (9, [.ref m_tape, .int s_tapeSize, .int s_thrown, .ref m_rule, .ref m_rules, .int 0, .ref m_stair, .int s_readStairs, .int s_fault, .int s_faultPlace, .int s_wide, .int s_tall, .ref m_low, .ref m_high, .ref m_crack, .int 0, .ref m_weight, .ref m_fire, .ref m_crowd, .ref m_state, .ref m_where, .int s_hours, .int s_fees, .int s_looks, .ref m_words, .int s_end, .int s_next, .int s_kind, .int s_which, .int s_place, .int s_read, .ref m_told, .ref m_breaks, .ref m_row, .ref m_tried, .ref m_steps, .ref m_paths])), (m_steps, .inl (y_steps, 400, .inl f_steps))] xT [.ref h0] (S := Nat → Int32) (fun u => match u with | g => True) (fun u => match u with | g => []) (fun u => match u with | g => [(h0, .inr (9, [.ref m_tape, .int s_tapeSize, .int s_thrown, .ref m_rule, .ref m_rules, .int 0, .ref m_stair, .int s_readStairs, .int s_fault, .int s_faultPlace, .int s_wide, .int s_tall, .ref m_low, .ref m_high, .ref m_crack, .int 0, .ref m_weight, .ref m_fire, .ref m_crowd, .ref m_state, .ref m_where, .int s_hours, .int s_fees, .int s_looks, .ref m_words, .int s_end, .int s_next, .int s_kind, .int s_which, .int s_place, .int s_read, .ref m_told, .ref m_breaks, .ref m_row, .ref m_tried, .ref m_steps, .ref m_paths])), (m_steps, .inl (y_steps, 400, .inl g))]) := by
  intro sz
  refine Met.ofW (cc := cX10_pathAll) (maxL := 3) (ret := none) (by decide) rfl ?_
  intro p e s m args below meth c s₁ B hml hv
  obtain ⟨rfl, hsz, hP, hK, hD0, hX⟩ := hv
  have hx := B.exec
  have hb := B.bytes
  have hr := B.returns
  have hts0 := atoms_spec (ws := .code yX10_pathAll cX10_pathAll 3 none :: gw) B.pre
  have hts := fun (w : Cond) (h : w ∈ gw) => hts0 w (List.mem_cons_of_mem _ h)
  have hown : s.vm.findClass RX10 = some m.cls := findClass_of_methodNamed B.named
  have hlocks := B.notSynchronized
  have F : mFix p s m _ c cX10_pathAll 3 RX10 := ⟨hx, hb, hml, hown, hts⟩
  subst hsz
  have hD := hD0.self (sz := s.heap.size)
  generalize hAe : va_A [(h0, .inr (9, [.ref m_tape, .int s_tapeSize, .int s_thrown, .ref m_rule, .ref m_rules, .int 0, .ref m_stair, .int s_readStairs, .int s_fault, .int s_faultPlace, .int s_wide, .int s_tall, .ref m_low, .ref m_high, .ref m_crack, .int 0, .ref m_weight, .ref m_fire, .ref m_crowd, .ref m_state, .ref m_where, .int s_hours, .int s_fees, .int s_looks, .ref m_words, .int s_end, .int s_next, .int s_kind, .int s_which, .int s_place, .int s_read, .ref m_told, .ref m_breaks, .ref m_row, .ref m_tried, .ref m_steps, .ref m_paths])), (m_steps, .inl (y_steps, 400, .inl f_steps))] s.heap.size = A at hD hX ⊢
  have hA : ∀ q : Nat, s.heap.size ≤ q → A q := fun q h => by rw [← hAe]; exact Or.inr h
  have hS : va_S A s.heap s.heap [] := va_S.rf
  have hl := lv_entry ([.ref h0]) (n := 3) (Nat.le_of_ble_eq_true rfl)
  rw [lg_entry_eq]
  generalize (lg_sl ([.ref h0]) ++ List.replicate (3 - (lg_sl ([.ref h0])).length) Slot.unset).toArray = ls at hl ⊢
  have hl : lv_has ls 3 [(0, .ref h0)] := hl
  have hP : va_P D vwCl [(h0, .inr (9, [.ref m_tape, .int s_tapeSize, .int s_thrown, .ref m_rule, .ref m_rules, .int 0, .ref m_stair, .int s_readStairs, .int s_fault, .int s_faultPlace, .int s_wide, .int s_tall, .ref m_low, .ref m_high, .ref m_crack, .int 0, .ref m_weight, .ref m_fire, .ref m_crowd, .ref m_state, .ref m_where, .int s_hours, .int s_fees, .int s_looks, .ref m_words, .int s_end, .int s_next, .int s_kind, .int s_which, .int s_place, .int s_read, .ref m_told, .ref m_breaks, .ref m_row, .ref m_tried, .ref m_steps, .ref m_paths])), (m_steps, .inl (y_steps, 400, .inl f_steps))] s.heap := hP
  refine lv_aload_n hx hb dX10_pathAll_0 rfl (lv_at hl 0 rfl) ?_
  refine mc_Vv (rest := []) (wr := []) F hK hP hD hS hA (m_walks0 l D h0 m_tape m_rule m_rules m_stair m_low m_high m_crack m_weight m_fire m_crowd m_state m_where m_words m_told m_breaks m_row m_tried m_steps m_paths y_steps f_steps s_tapeSize s_thrown s_readStairs s_fault s_faultPlace s_wide s_tall 0 s_hours s_fees s_looks s_end s_next s_kind s_which s_place s_read ) ⟨gk_X10_202.1, gk_X10_202.2, Nat.le_of_ble_eq_true rfl, Nat.le_of_ble_eq_true rfl⟩ [0, 1] [] [0] ⟨rfl, rfl, rfl, rfl, by decide⟩ rfl xT_move (fun _ _ _ => trivial) 0 rfl rfl rfl hl.1 rfl (Nat.le_of_ble_eq_true rfl) dX10_pathAll_1 ⟨Nat.le_of_ble_eq_true rfl, Nat.le_of_ble_eq_true rfl⟩ (fun g_1 H locs hw hK1 hP hD hS => ?_)
  have hP : va_P D vwCl [(h0, .inr (9, [.ref m_tape, .int s_tapeSize, .int s_thrown, .ref m_rule, .ref m_rules, .int 0, .ref m_stair, .int s_readStairs, .int s_fault, .int s_faultPlace, .int s_wide, .int s_tall, .ref m_low, .ref m_high, .ref m_crack, .int 0, .ref m_weight, .ref m_fire, .ref m_crowd, .ref m_state, .ref m_where, .int s_hours, .int s_fees, .int s_looks, .ref m_words, .int s_end, .int s_next, .int s_kind, .int s_which, .int s_place, .int s_read, .ref m_told, .ref m_breaks, .ref m_row, .ref m_tried, .ref m_steps, .ref m_paths])), (m_steps, .inl (y_steps, 400, .inl g_1))] H := hP
  have hD : va_D A [(h0, .inr (9, [.ref m_tape, .int s_tapeSize, .int s_thrown, .ref m_rule, .ref m_rules, .int 0, .ref m_stair, .int s_readStairs, .int s_fault, .int s_faultPlace, .int s_wide, .int s_tall, .ref m_low, .ref m_high, .ref m_crack, .int 0, .ref m_weight, .ref m_fire, .ref m_crowd, .ref m_state, .ref m_where, .int s_hours, .int s_fees, .int s_looks, .ref m_words, .int s_end, .int s_next, .int s_kind, .int s_which, .int s_place, .int s_read, .ref m_told, .ref m_breaks, .ref m_row, .ref m_tried, .ref m_steps, .ref m_paths])), (m_steps, .inl (y_steps, 400, .inl g_1))] := hD
  refine lv_iconst (v := 0) hx hb dX10_pathAll_4 (by decide) ?_
  refine lv_istore_n (lv' := [(1, .int 0), (0, .ref h0)]) hx hb dX10_pathAll_5 rfl hl (by decide) rfl (fun ls hl => ?_)
  refine lv_iload_n hx hb dX10_pathAll_6 rfl (lv_at hl 0 rfl) ?_
  refine lv_aload_n hx hb dX10_pathAll_7 rfl (lv_at hl 1 rfl) ?_
  refine va_get (D := D) (ci := 9) (v := .int 0) (C := RX10) (T := TX10) (N := 37) hx hb hts inG_X10 hown hK hP 0 rfl rfl 15 (by decide) (hts _ kw_4_210) (fun _ h9 => h9) rfl dX10_pathAll_8 ?_
  refine lv_icmp_ge (tgt := 62) hx hb dX10_pathAll_11 (by decide) (fun c_4 => ?_) (fun c_4 => absurd c_4 (by decide))
  have hP9 := hP.sub (ws' := [(h0, .inr (9, [.ref m_tape, .int s_tapeSize, .int s_thrown, .ref m_rule, .ref m_rules, .int 0, .ref m_stair, .int s_readStairs, .int s_fault, .int s_faultPlace, .int s_wide, .int s_tall, .ref m_low, .ref m_high, .ref m_crack, .int 0, .ref m_weight, .ref m_fire, .ref m_crowd, .ref m_state, .ref m_where, .int s_hours, .int s_fees, .int s_looks, .ref m_words, .int s_end, .int s_next, .int s_kind, .int s_which, .int s_place, .int s_read, .ref m_told, .ref m_breaks, .ref m_row, .ref m_tried, .ref m_steps, .ref m_paths])), (m_steps, .inl (y_steps, 400, .inl g_1))]) [0, 1] rfl
  have hD9 := hD.sub (ws' := [(h0, .inr (9, [.ref m_tape, .int s_tapeSize, .int s_thrown, .ref m_rule, .ref m_rules, .int 0, .ref m_stair, .int s_readStairs, .int s_fault, .int s_faultPlace, .int s_wide, .int s_tall, .ref m_low, .ref m_high, .ref m_crack, .int 0, .ref m_weight, .ref m_fire, .ref m_crowd, .ref m_state, .ref m_where, .int s_hours, .int s_fees, .int s_looks, .ref m_words, .int s_end, .int s_next, .int s_kind, .int s_which, .int s_place, .int s_read, .ref m_told, .ref m_breaks, .ref m_row, .ref m_tried, .ref m_steps, .ref m_paths])), (m_steps, .inl (y_steps, 400, .inl g_1))]) [0, 1] (by decide) rfl
  have hK9 := hK.sub (tys' := []) [] rfl
  refine W.widen (k := 0) (n := 0) (by decide) (by decide) ?_
  exact W.vret hx hb hr (fun t ht hW => ⟨⟨g_1, rfl, trivial, by rw [ht]; exact hP9, va_K.moved hW.alike hK9, hD9⟩, hS.F ht⟩) hS.2.2 dX10_pathAll_62
theorem dX10_canBe_0 : decode cX10_canBe 0 = .ok (.iconst 1, 1) := by decide +kernel
theorem dX10_canBe_1 : decode cX10_canBe 1 = .ok (.istore_n 2, 1) := by decide +kernel
theorem dX10_canBe_2 : decode cX10_canBe 2 = .ok (.iload_n 2, 1) := by decide +kernel
theorem dX10_canBe_3 : decode cX10_canBe 3 = .ok (.iconst 1, 1) := by decide +kernel
theorem dX10_canBe_4 : decode cX10_canBe 4 = .ok (.aload_n 0, 1) := by decide +kernel
theorem dX10_canBe_5 : decode cX10_canBe 5 = .ok (.getfield 146, 3) := by decide +kernel
theorem dX10_canBe_8 : decode cX10_canBe 8 = .ok (.ishl, 1) := by decide +kernel
theorem dX10_canBe_9 : decode cX10_canBe 9 = .ok (.if_icmp .ge 28, 3) := by decide +kernel
theorem dX10_canBe_37 : decode cX10_canBe 37 = .ok (.iconst 1, 1) := by decide +kernel
theorem dX10_canBe_38 : decode cX10_canBe 38 = .ok (.ireturn, 1) := by decide +kernel
set_option maxHeartbeats 4000000 in
set_option maxRecDepth 100000 in
theorem m_canBe0 (l : Launch) (D : va_G) (h0 : Nat) (m_tape : Nat) (m_rule : Nat) (m_rules : Nat) (m_stair : Nat) (m_low : Nat) (m_high : Nat) (m_crack : Nat) (m_weight : Nat) (m_fire : Nat) (m_crowd : Nat) (m_state : Nat) (m_where : Nat) (m_words : Nat) (m_told : Nat) (m_breaks : Nat) (m_row : Nat) (m_tried : Nat) (m_steps : Nat) (m_paths : Nat) (s_tapeSize : Int32) (s_thrown : Int32) (s_stairs : Int32) (s_readStairs : Int32) (s_fault : Int32) (s_faultPlace : Int32) (s_wide : Int32) (s_tall : Int32) (s_hours : Int32) (s_fees : Int32) (s_looks : Int32) (s_end : Int32) (s_next : Int32) (s_kind : Int32) (s_which : Int32) (s_place : Int32) (s_read : Int32) (x : Int32) : cI l yX10_canBe (.code yX10_canBe cX10_canBe 3 (some .boolean)) ({ frames := 2, cells := 0, slots := 0, locals := 44 }) D [] [(h0, .inr (9, [.ref m_tape, .int s_tapeSize, .int s_thrown, .ref m_rule, .ref m_rules, .int s_stairs, .ref m_stair, .int s_readStairs, .int s_fault, .int s_faultPlace, .int s_wide, .int s_tall, .ref m_low, .ref m_high, .ref m_crack, .int 0, .ref m_weight, .ref m_fire, .ref m_crowd, .ref m_state, .ref m_where, .int s_hours, .int s_fees, .int s_looks, .ref m_words, .int s_end, .int s_next, .int s_kind, .int s_which, .int s_place, .int s_read, .ref m_told, .ref m_breaks, .ref m_row, .ref m_tried, .ref m_steps, .ref m_paths]))] xT [.ref h0, .int x] (S := Unit) (fun r _ => r = 1) (fun _ => []) (fun _ => [(h0, .inr (9, [.ref m_tape, .int s_tapeSize, .int s_thrown, .ref m_rule, .ref m_rules, .int s_stairs, .ref m_stair, .int s_readStairs, .int s_fault, .int s_faultPlace, .int s_wide, .int s_tall, .ref m_low, .ref m_high, .ref m_crack, .int 0, .ref m_weight, .ref m_fire, .ref m_crowd, .ref m_state, .ref m_where, .int s_hours, .int s_fees, .int s_looks, .ref m_words, .int s_end, .int s_next, .int s_kind, .int s_which, .int s_place, .int s_read, .ref m_told, .ref m_breaks, .ref m_row, .ref m_tried, .ref m_steps, .ref m_paths]))]) := by
  intro sz
  refine Met.ofW (cc := cX10_canBe) (maxL := 3) (ret := (some .boolean)) (by decide) rfl ?_
  intro p e s m args below meth c s₁ B hml hv
  obtain ⟨rfl, hsz, hP, hK, hD0, hX⟩ := hv
  have hx := B.exec
  have hb := B.bytes
  have hr := B.returns
  have hts0 := atoms_spec (ws := .code yX10_canBe cX10_canBe 3 (some .boolean) :: gw) B.pre
  have hts := fun (w : Cond) (h : w ∈ gw) => hts0 w (List.mem_cons_of_mem _ h)
  have hown : s.vm.findClass RX10 = some m.cls := findClass_of_methodNamed B.named
  have hlocks := B.notSynchronized
  have F : mFix p s m _ c cX10_canBe 3 RX10 := ⟨hx, hb, hml, hown, hts⟩
  subst hsz
  have hD := hD0.self (sz := s.heap.size)
  generalize hAe : va_A [(h0, .inr (9, [.ref m_tape, .int s_tapeSize, .int s_thrown, .ref m_rule, .ref m_rules, .int s_stairs, .ref m_stair, .int s_readStairs, .int s_fault, .int s_faultPlace, .int s_wide, .int s_tall, .ref m_low, .ref m_high, .ref m_crack, .int 0, .ref m_weight, .ref m_fire, .ref m_crowd, .ref m_state, .ref m_where, .int s_hours, .int s_fees, .int s_looks, .ref m_words, .int s_end, .int s_next, .int s_kind, .int s_which, .int s_place, .int s_read, .ref m_told, .ref m_breaks, .ref m_row, .ref m_tried, .ref m_steps, .ref m_paths]))] s.heap.size = A at hD hX ⊢
  have hA : ∀ q : Nat, s.heap.size ≤ q → A q := fun q h => by rw [← hAe]; exact Or.inr h
  have hS : va_S A s.heap s.heap [] := va_S.rf
  have hl := lv_entry ([.ref h0, .int x]) (n := 3) (Nat.le_of_ble_eq_true rfl)
  rw [lg_entry_eq]
  generalize (lg_sl ([.ref h0, .int x]) ++ List.replicate (3 - (lg_sl ([.ref h0, .int x])).length) Slot.unset).toArray = ls at hl ⊢
  have hl : lv_has ls 3 [(0, .ref h0), (1, .int x)] := hl
  have hP : va_P D vwCl [(h0, .inr (9, [.ref m_tape, .int s_tapeSize, .int s_thrown, .ref m_rule, .ref m_rules, .int s_stairs, .ref m_stair, .int s_readStairs, .int s_fault, .int s_faultPlace, .int s_wide, .int s_tall, .ref m_low, .ref m_high, .ref m_crack, .int 0, .ref m_weight, .ref m_fire, .ref m_crowd, .ref m_state, .ref m_where, .int s_hours, .int s_fees, .int s_looks, .ref m_words, .int s_end, .int s_next, .int s_kind, .int s_which, .int s_place, .int s_read, .ref m_told, .ref m_breaks, .ref m_row, .ref m_tried, .ref m_steps, .ref m_paths]))] s.heap := hP
  refine lv_iconst (v := 1) hx hb dX10_canBe_0 (by decide) ?_
  refine lv_istore_n (lv' := [(2, .int 1), (0, .ref h0), (1, .int x)]) hx hb dX10_canBe_1 rfl hl (by decide) rfl (fun ls hl => ?_)
  refine lv_iload_n hx hb dX10_canBe_2 rfl (lv_at hl 0 rfl) ?_
  refine lv_iconst (v := 1) hx hb dX10_canBe_3 (by decide) ?_
  refine lv_aload_n hx hb dX10_canBe_4 rfl (lv_at hl 1 rfl) ?_
  refine va_get (D := D) (ci := 9) (v := .int 0) (C := RX10) (T := TX10) (N := 37) hx hb hts inG_X10 hown hK hP 0 rfl rfl 15 (by decide) (hts _ kw_4_210) (fun _ h9 => h9) rfl dX10_canBe_5 ?_
  refine lv_ishl hx hb dX10_canBe_8 ?_
  refine lv_topi (fun z_1 ez_1 => ?_)
  obtain rfl : z_1 = (1 : Int32) := ez_1.trans (by decide)
  refine lv_icmp_ge (tgt := 37) hx hb dX10_canBe_9 (by decide) (fun c_2 => ?_) (fun c_2 => absurd c_2 (by decide))
  refine lv_iconst (v := 1) hx hb dX10_canBe_37 (by decide) ?_
  have hP9 := hP.sub (ws' := [(h0, .inr (9, [.ref m_tape, .int s_tapeSize, .int s_thrown, .ref m_rule, .ref m_rules, .int s_stairs, .ref m_stair, .int s_readStairs, .int s_fault, .int s_faultPlace, .int s_wide, .int s_tall, .ref m_low, .ref m_high, .ref m_crack, .int 0, .ref m_weight, .ref m_fire, .ref m_crowd, .ref m_state, .ref m_where, .int s_hours, .int s_fees, .int s_looks, .ref m_words, .int s_end, .int s_next, .int s_kind, .int s_which, .int s_place, .int s_read, .ref m_told, .ref m_breaks, .ref m_row, .ref m_tried, .ref m_steps, .ref m_paths]))]) [0] rfl
  have hD9 := hD.sub (ws' := [(h0, .inr (9, [.ref m_tape, .int s_tapeSize, .int s_thrown, .ref m_rule, .ref m_rules, .int s_stairs, .ref m_stair, .int s_readStairs, .int s_fault, .int s_faultPlace, .int s_wide, .int s_tall, .ref m_low, .ref m_high, .ref m_crack, .int 0, .ref m_weight, .ref m_fire, .ref m_crowd, .ref m_state, .ref m_where, .int s_hours, .int s_fees, .int s_looks, .ref m_words, .int s_end, .int s_next, .int s_kind, .int s_which, .int s_place, .int s_read, .ref m_told, .ref m_breaks, .ref m_row, .ref m_tried, .ref m_steps, .ref m_paths]))]) [0] (by decide) rfl
  have hK9 := hK.sub (tys' := []) [] rfl
  refine W.widen (k := 0) (n := 0) (by decide) (by decide) ?_
  exact W.zret (v := 1) hx hb hr rfl (fun t ht hW => ⟨⟨1, (), rfl, rfl, by rw [ht]; exact hP9, va_K.moved hW.alike hK9, hD9⟩, hS.F ht⟩) hS.2.2 dX10_canBe_38
theorem dX10_soonest_0 : decode cX10_soonest 0 = .ok (.aload_n 0, 1) := by decide +kernel
theorem kw_5_204 : Cond.methodLink RX10 214 yX10_pathAll ∈ gw := gw_t5 (List.mem_of_getElem? (i := 204) (by decide +kernel)) (by decide +kernel)
theorem kw_5_206 : Cond.instanceMethod yX10_pathAll ∈ gw := gw_t5 (List.mem_of_getElem? (i := 206) (by decide +kernel)) (by decide +kernel)
theorem ks_4_5 : Cond.selects RX10 yX10_pathAll yX10_pathAll ∈ gw := gw_s (y := yX10_pathAll) (n := 37) (List.mem_append_right _ (List.mem_append_right _ (List.mem_append_right _ (List.mem_of_getElem? (i := 5) (by decide +kernel)))))
theorem kw_5_207 : Cond.code yX10_pathAll cX10_pathAll 3 none ∈ gw := gw_t5 (List.mem_of_getElem? (i := 207) (by decide +kernel)) (by decide +kernel)
theorem gk_X10_214 : GoodIn gw (wsV RX10 214 RX10 yX10_pathAll (.code yX10_pathAll cX10_pathAll 3 none :: gw)) ∧ (yX10_pathAll.cls = RX10 ∧ yX10_pathAll.cls ≠ "java/lang/invoke/MethodHandle" ∧ yX10_pathAll.cls ≠ "java/lang/invoke/VarHandle" ∧ (parseMethodDescriptor yX10_pathAll.desc).map (fun d => d.parameters.length) = some 0) := ⟨gi_V kw_5_204 kw_5_206 ks_4_5 kw_1_11 kw_5_207, by decide +kernel⟩
theorem dX10_soonest_1 : decode cX10_soonest 1 = .ok (.invokevirtual 214, 3) := by decide +kernel
theorem dX10_soonest_4 : decode cX10_soonest 4 = .ok (.iconst 0, 1) := by decide +kernel
theorem dX10_soonest_5 : decode cX10_soonest 5 = .ok (.istore_n 1, 1) := by decide +kernel
theorem dX10_soonest_6 : decode cX10_soonest 6 = .ok (.iload_n 1, 1) := by decide +kernel
theorem dX10_soonest_7 : decode cX10_soonest 7 = .ok (.aload_n 0, 1) := by decide +kernel
theorem dX10_soonest_8 : decode cX10_soonest 8 = .ok (.getfield 146, 3) := by decide +kernel
theorem dX10_soonest_11 : decode cX10_soonest 11 = .ok (.if_icmp .ge 81, 3) := by decide +kernel
theorem dX10_soonest_92 : decode cX10_soonest 92 = .ok (.iconst 0, 1) := by decide +kernel
theorem dX10_soonest_93 : decode cX10_soonest 93 = .ok (.istore_n 1, 1) := by decide +kernel
theorem dX10_soonest_94 : decode cX10_soonest 94 = .ok (.sipush 1200, 3) := by decide +kernel
theorem dX10_soonest_97 : decode cX10_soonest 97 = .ok (.istore_n 2, 1) := by decide +kernel
theorem dX10_soonest_98 : decode cX10_soonest 98 = .ok (.iload_n 1, 1) := by decide +kernel
theorem dX10_soonest_99 : decode cX10_soonest 99 = .ok (.iload_n 2, 1) := by decide +kernel
theorem dX10_soonest_100 : decode cX10_soonest 100 = .ok (.if_icmp .ge 29, 3) := by decide +kernel
theorem dX10_soonest_103 : decode cX10_soonest 103 = .ok (.iload_n 1, 1) := by decide +kernel
theorem dX10_soonest_104 : decode cX10_soonest 104 = .ok (.iload_n 2, 1) := by decide +kernel
theorem dX10_soonest_105 : decode cX10_soonest 105 = .ok (.iadd, 1) := by decide +kernel
theorem dX10_soonest_106 : decode cX10_soonest 106 = .ok (.iconst 2, 1) := by decide +kernel
theorem dX10_soonest_107 : decode cX10_soonest 107 = .ok (.idiv, 1) := by decide +kernel
theorem dX10_soonest_108 : decode cX10_soonest 108 = .ok (.istore_n 3, 1) := by decide +kernel
theorem dX10_soonest_109 : decode cX10_soonest 109 = .ok (.aload_n 0, 1) := by decide +kernel
theorem dX10_soonest_110 : decode cX10_soonest 110 = .ok (.iload_n 3, 1) := by decide +kernel
theorem kw_5_224 : Cond.methodLink RX10 217 yX10_canBe ∈ gw := gw_t5 (List.mem_of_getElem? (i := 224) (by decide +kernel)) (by decide +kernel)
theorem kw_5_226 : Cond.instanceMethod yX10_canBe ∈ gw := gw_t5 (List.mem_of_getElem? (i := 226) (by decide +kernel)) (by decide +kernel)
theorem ks_4_10 : Cond.selects RX10 yX10_canBe yX10_canBe ∈ gw := gw_s (y := yX10_canBe) (n := 37) (List.mem_append_right _ (List.mem_append_right _ (List.mem_append_right _ (List.mem_of_getElem? (i := 10) (by decide +kernel)))))
theorem kw_5_227 : Cond.code yX10_canBe cX10_canBe 3 (some .boolean) ∈ gw := gw_t5 (List.mem_of_getElem? (i := 227) (by decide +kernel)) (by decide +kernel)
theorem gk_X10_217 : GoodIn gw (wsV RX10 217 RX10 yX10_canBe (.code yX10_canBe cX10_canBe 3 (some .boolean) :: gw)) ∧ (yX10_canBe.cls = RX10 ∧ yX10_canBe.cls ≠ "java/lang/invoke/MethodHandle" ∧ yX10_canBe.cls ≠ "java/lang/invoke/VarHandle" ∧ (parseMethodDescriptor yX10_canBe.desc).map (fun d => d.parameters.length) = some 1) := ⟨gi_V kw_5_224 kw_5_226 ks_4_10 kw_1_11 kw_5_227, by decide +kernel⟩
theorem dX10_soonest_111 : decode cX10_soonest 111 = .ok (.invokevirtual 217, 3) := by decide +kernel
theorem dX10_soonest_114 : decode cX10_soonest 114 = .ok (.ifCond .eq 8, 3) := by decide +kernel
theorem dX10_soonest_117 : decode cX10_soonest 117 = .ok (.iload_n 3, 1) := by decide +kernel
theorem dX10_soonest_118 : decode cX10_soonest 118 = .ok (.istore_n 2, 1) := by decide +kernel
theorem dX10_soonest_119 : decode cX10_soonest 119 = .ok (.goto 7, 3) := by decide +kernel
theorem dX10_soonest_126 : decode cX10_soonest 126 = .ok (.goto (-28), 3) := by decide +kernel
theorem dX10_soonest_129 : decode cX10_soonest 129 = .ok (.iload_n 1, 1) := by decide +kernel
theorem dX10_soonest_130 : decode cX10_soonest 130 = .ok (.ireturn, 1) := by decide +kernel
set_option maxHeartbeats 4000000 in
set_option maxRecDepth 100000 in
theorem m_soonest0 (l : Launch) (D : va_G) (h0 : Nat) (m_tape : Nat) (m_rule : Nat) (m_rules : Nat) (m_stair : Nat) (m_low : Nat) (m_high : Nat) (m_crack : Nat) (m_weight : Nat) (m_fire : Nat) (m_crowd : Nat) (m_state : Nat) (m_where : Nat) (m_words : Nat) (m_told : Nat) (m_breaks : Nat) (m_row : Nat) (m_tried : Nat) (m_steps : Nat) (m_paths : Nat) (y_steps : ClassId) (f_steps : Nat → Int32) (s_tapeSize : Int32) (s_thrown : Int32) (s_readStairs : Int32) (s_fault : Int32) (s_faultPlace : Int32) (s_wide : Int32) (s_tall : Int32) (s_hours : Int32) (s_fees : Int32) (s_looks : Int32) (s_end : Int32) (s_next : Int32) (s_kind : Int32) (s_which : Int32) (s_place : Int32) (s_read : Int32) : cI l yX10_soonest (.code yX10_soonest cX10_soonest 4 (some .int)) ({ frames := 4, cells := 0, slots := 0, locals := 96 }) D [(y_steps, .int)] [(h0, .inr (9, [.ref m_tape, .int s_tapeSize, .int s_thrown, .ref m_rule, .ref m_rules, .int 0, .ref m_stair, .int s_readStairs, .int s_fault, .int s_faultPlace, .int s_wide, .int s_tall, .ref m_low, .ref m_high, .ref m_crack, .int 0, .ref m_weight, .ref m_fire, .ref m_crowd, .ref m_state, .ref m_where, .int s_hours, .int s_fees, .int s_looks, .ref m_words, .int s_end, .int s_next, .int s_kind, .int s_which, .int s_place, .int s_read, .ref m_told, .ref m_breaks, .ref m_row, .ref m_tried, .ref m_steps, .ref m_paths])), (m_steps, .inl (y_steps, 400, .inl f_steps))] xT [.ref h0] (S := Nat → Int32) (fun r u => match u with | g => r = 0) (fun u => match u with | g => []) (fun u => match u with | g => [(h0, .inr (9, [.ref m_tape, .int s_tapeSize, .int s_thrown, .ref m_rule, .ref m_rules, .int 0, .ref m_stair, .int s_readStairs, .int s_fault, .int s_faultPlace, .int s_wide, .int s_tall, .ref m_low, .ref m_high, .ref m_crack, .int 0, .ref m_weight, .ref m_fire, .ref m_crowd, .ref m_state, .ref m_where, .int s_hours, .int s_fees, .int s_looks, .ref m_words, .int s_end, .int s_next, .int s_kind, .int s_which, .int s_place, .int s_read, .ref m_told, .ref m_breaks, .ref m_row, .ref m_tried, .ref m_steps, .ref m_paths])), (m_steps, .inl (y_steps, 400, .inl g))]) := by
  intro sz
  refine Met.ofW (cc := cX10_soonest) (maxL := 4) (ret := (some .int)) (by decide) rfl ?_
  intro p e s m args below meth c s₁ B hml hv
  obtain ⟨rfl, hsz, hP, hK, hD0, hX⟩ := hv
  have hx := B.exec
  have hb := B.bytes
  have hr := B.returns
  have hts0 := atoms_spec (ws := .code yX10_soonest cX10_soonest 4 (some .int) :: gw) B.pre
  have hts := fun (w : Cond) (h : w ∈ gw) => hts0 w (List.mem_cons_of_mem _ h)
  have hown : s.vm.findClass RX10 = some m.cls := findClass_of_methodNamed B.named
  have hlocks := B.notSynchronized
  have F : mFix p s m _ c cX10_soonest 4 RX10 := ⟨hx, hb, hml, hown, hts⟩
  subst hsz
  have hD := hD0.self (sz := s.heap.size)
  generalize hAe : va_A [(h0, .inr (9, [.ref m_tape, .int s_tapeSize, .int s_thrown, .ref m_rule, .ref m_rules, .int 0, .ref m_stair, .int s_readStairs, .int s_fault, .int s_faultPlace, .int s_wide, .int s_tall, .ref m_low, .ref m_high, .ref m_crack, .int 0, .ref m_weight, .ref m_fire, .ref m_crowd, .ref m_state, .ref m_where, .int s_hours, .int s_fees, .int s_looks, .ref m_words, .int s_end, .int s_next, .int s_kind, .int s_which, .int s_place, .int s_read, .ref m_told, .ref m_breaks, .ref m_row, .ref m_tried, .ref m_steps, .ref m_paths])), (m_steps, .inl (y_steps, 400, .inl f_steps))] s.heap.size = A at hD hX ⊢
  have hA : ∀ q : Nat, s.heap.size ≤ q → A q := fun q h => by rw [← hAe]; exact Or.inr h
  have hS : va_S A s.heap s.heap [] := va_S.rf
  have hl := lv_entry ([.ref h0]) (n := 4) (Nat.le_of_ble_eq_true rfl)
  rw [lg_entry_eq]
  generalize (lg_sl ([.ref h0]) ++ List.replicate (4 - (lg_sl ([.ref h0])).length) Slot.unset).toArray = ls at hl ⊢
  have hl : lv_has ls 4 [(0, .ref h0)] := hl
  have hP : va_P D vwCl [(h0, .inr (9, [.ref m_tape, .int s_tapeSize, .int s_thrown, .ref m_rule, .ref m_rules, .int 0, .ref m_stair, .int s_readStairs, .int s_fault, .int s_faultPlace, .int s_wide, .int s_tall, .ref m_low, .ref m_high, .ref m_crack, .int 0, .ref m_weight, .ref m_fire, .ref m_crowd, .ref m_state, .ref m_where, .int s_hours, .int s_fees, .int s_looks, .ref m_words, .int s_end, .int s_next, .int s_kind, .int s_which, .int s_place, .int s_read, .ref m_told, .ref m_breaks, .ref m_row, .ref m_tried, .ref m_steps, .ref m_paths])), (m_steps, .inl (y_steps, 400, .inl f_steps))] s.heap := hP
  refine lv_aload_n hx hb dX10_soonest_0 rfl (lv_at hl 0 rfl) ?_
  refine mc_Vv (rest := []) (wr := []) F hK hP hD hS hA (m_pathAll0 l D h0 m_tape m_rule m_rules m_stair m_low m_high m_crack m_weight m_fire m_crowd m_state m_where m_words m_told m_breaks m_row m_tried m_steps m_paths y_steps f_steps s_tapeSize s_thrown s_readStairs s_fault s_faultPlace s_wide s_tall s_hours s_fees s_looks s_end s_next s_kind s_which s_place s_read ) ⟨gk_X10_214.1, gk_X10_214.2, Nat.le_of_ble_eq_true rfl, Nat.le_of_ble_eq_true rfl⟩ [0, 1] [] [0] ⟨rfl, rfl, rfl, rfl, by decide⟩ rfl xT_move (fun _ _ _ => trivial) 0 rfl rfl rfl hl.1 rfl (Nat.le_of_ble_eq_true rfl) dX10_soonest_1 ⟨Nat.le_of_ble_eq_true rfl, Nat.le_of_ble_eq_true rfl⟩ (fun g_1 H locs hw hK1 hP hD hS => ?_)
  have hP : va_P D vwCl [(h0, .inr (9, [.ref m_tape, .int s_tapeSize, .int s_thrown, .ref m_rule, .ref m_rules, .int 0, .ref m_stair, .int s_readStairs, .int s_fault, .int s_faultPlace, .int s_wide, .int s_tall, .ref m_low, .ref m_high, .ref m_crack, .int 0, .ref m_weight, .ref m_fire, .ref m_crowd, .ref m_state, .ref m_where, .int s_hours, .int s_fees, .int s_looks, .ref m_words, .int s_end, .int s_next, .int s_kind, .int s_which, .int s_place, .int s_read, .ref m_told, .ref m_breaks, .ref m_row, .ref m_tried, .ref m_steps, .ref m_paths])), (m_steps, .inl (y_steps, 400, .inl g_1))] H := hP
  have hD : va_D A [(h0, .inr (9, [.ref m_tape, .int s_tapeSize, .int s_thrown, .ref m_rule, .ref m_rules, .int 0, .ref m_stair, .int s_readStairs, .int s_fault, .int s_faultPlace, .int s_wide, .int s_tall, .ref m_low, .ref m_high, .ref m_crack, .int 0, .ref m_weight, .ref m_fire, .ref m_crowd, .ref m_state, .ref m_where, .int s_hours, .int s_fees, .int s_looks, .ref m_words, .int s_end, .int s_next, .int s_kind, .int s_which, .int s_place, .int s_read, .ref m_told, .ref m_breaks, .ref m_row, .ref m_tried, .ref m_steps, .ref m_paths])), (m_steps, .inl (y_steps, 400, .inl g_1))] := hD
  refine lv_iconst (v := 0) hx hb dX10_soonest_4 (by decide) ?_
  refine lv_istore_n (lv' := [(1, .int 0), (0, .ref h0)]) hx hb dX10_soonest_5 rfl hl (by decide) rfl (fun ls hl => ?_)
  refine lv_iload_n hx hb dX10_soonest_6 rfl (lv_at hl 0 rfl) ?_
  refine lv_aload_n hx hb dX10_soonest_7 rfl (lv_at hl 1 rfl) ?_
  refine va_get (D := D) (ci := 9) (v := .int 0) (C := RX10) (T := TX10) (N := 37) hx hb hts inG_X10 hown hK hP 0 rfl rfl 15 (by decide) (hts _ kw_4_210) (fun _ h9 => h9) rfl dX10_soonest_8 ?_
  refine lv_icmp_ge (tgt := 92) hx hb dX10_soonest_11 (by decide) (fun c_4 => ?_) (fun c_4 => absurd c_4 (by decide))
  refine lv_iconst (v := 0) hx hb dX10_soonest_92 (by decide) ?_
  refine lv_istore_n (lv' := [(1, .int 0), (0, .ref h0)]) hx hb dX10_soonest_93 rfl hl (by decide) rfl (fun ls hl => ?_)
  refine lv_sipush (v := 1200) hx hb dX10_soonest_94 (by decide) ?_
  refine lv_istore_n (lv' := [(2, .int 1200), (1, .int 0), (0, .ref h0)]) hx hb dX10_soonest_97 rfl hl (by decide) rfl (fun ls hl => ?_)
  refine lv_iload_n hx hb dX10_soonest_98 rfl (lv_at hl 1 rfl) ?_
  refine lv_iload_n hx hb dX10_soonest_99 rfl (lv_at hl 0 rfl) ?_
  refine lv_icmp_ge (tgt := 129) hx hb dX10_soonest_100 (by decide) (fun c_5 => absurd c_5 (by decide)) (fun c_5 => ?_)
  refine lv_iload_n hx hb dX10_soonest_103 rfl (lv_at hl 1 rfl) ?_
  refine lv_iload_n hx hb dX10_soonest_104 rfl (lv_at hl 0 rfl) ?_
  refine lv_iadd hx hb dX10_soonest_105 ?_
  refine lv_topi (fun z_6 ez_6 => ?_)
  obtain rfl : z_6 = (1200 : Int32) := ez_6.trans (by decide)
  refine lv_iconst (v := 2) hx hb dX10_soonest_106 (by decide) ?_
  refine lv_idiv hx hb dX10_soonest_107 (by decide) ?_
  refine lv_topi (fun z_7 ez_7 => ?_)
  obtain rfl : z_7 = (600 : Int32) := ez_7.trans (by decide)
  refine lv_istore_n (lv' := [(3, .int 600), (2, .int 1200), (1, .int 0), (0, .ref h0)]) hx hb dX10_soonest_108 rfl hl (by decide) rfl (fun ls hl => ?_)
  refine lv_aload_n hx hb dX10_soonest_109 rfl (lv_at hl 3 rfl) ?_
  refine lv_iload_n hx hb dX10_soonest_110 rfl (lv_at hl 0 rfl) ?_
  refine mc_Vi (rest := []) (wr := [(m_steps, .inl (y_steps, 400, .inl g_1))]) F hK hP hD hS hA (m_canBe0 l D h0 m_tape m_rule m_rules m_stair m_low m_high m_crack m_weight m_fire m_crowd m_state m_where m_words m_told m_breaks m_row m_tried m_steps m_paths s_tapeSize s_thrown 0 s_readStairs s_fault s_faultPlace s_wide s_tall s_hours s_fees s_looks s_end s_next s_kind s_which s_place s_read 600 ) ⟨gk_X10_217.1, gk_X10_217.2, Nat.le_of_ble_eq_true rfl, Nat.le_of_ble_eq_true rfl⟩ [0] [1] [] ⟨rfl, rfl, rfl, rfl, by decide⟩ rfl xT_move (fun _ _ _ => trivial) 0 rfl rfl rfl hl.1 rfl (Nat.le_of_ble_eq_true rfl) dX10_soonest_111 ⟨Nat.le_of_ble_eq_true rfl, Nat.le_of_ble_eq_true rfl⟩ (fun r_8 _ H locs hw hK1 hP hD hS => ?_)
  have hP : va_P D vwCl [(m_steps, .inl (y_steps, 400, .inl g_1)), (h0, .inr (9, [.ref m_tape, .int s_tapeSize, .int s_thrown, .ref m_rule, .ref m_rules, .int 0, .ref m_stair, .int s_readStairs, .int s_fault, .int s_faultPlace, .int s_wide, .int s_tall, .ref m_low, .ref m_high, .ref m_crack, .int 0, .ref m_weight, .ref m_fire, .ref m_crowd, .ref m_state, .ref m_where, .int s_hours, .int s_fees, .int s_looks, .ref m_words, .int s_end, .int s_next, .int s_kind, .int s_which, .int s_place, .int s_read, .ref m_told, .ref m_breaks, .ref m_row, .ref m_tried, .ref m_steps, .ref m_paths]))] H := hP
  have hD : va_D A [(m_steps, .inl (y_steps, 400, .inl g_1)), (h0, .inr (9, [.ref m_tape, .int s_tapeSize, .int s_thrown, .ref m_rule, .ref m_rules, .int 0, .ref m_stair, .int s_readStairs, .int s_fault, .int s_faultPlace, .int s_wide, .int s_tall, .ref m_low, .ref m_high, .ref m_crack, .int 0, .ref m_weight, .ref m_fire, .ref m_crowd, .ref m_state, .ref m_where, .int s_hours, .int s_fees, .int s_looks, .ref m_words, .int s_end, .int s_next, .int s_kind, .int s_which, .int s_place, .int s_read, .ref m_told, .ref m_breaks, .ref m_row, .ref m_tried, .ref m_steps, .ref m_paths]))] := hD
  have hw_9 : r_8 = 1 := hw
  obtain rfl : r_8 = 1 := hw_9
  refine lv_if_eq (tgt := 122) hx hb dX10_soonest_114 (by decide) (fun c_10 => absurd c_10 (by decide)) (fun c_10 => ?_)
  refine lv_iload_n hx hb dX10_soonest_117 rfl (lv_at hl 0 rfl) ?_
  refine lv_istore_n (lv' := [(2, .int 600), (3, .int 600), (1, .int 0), (0, .ref h0)]) hx hb dX10_soonest_118 rfl hl (by decide) rfl (fun ls hl => ?_)
  refine lv_goto (tgt := 126) hx hb dX10_soonest_119 (by decide) ?_
  refine lv_goto (tgt := 98) hx hb dX10_soonest_126 (by decide) ?_
  refine lv_iload_n hx hb dX10_soonest_98 rfl (lv_at hl 2 rfl) ?_
  refine lv_iload_n hx hb dX10_soonest_99 rfl (lv_at hl 0 rfl) ?_
  refine lv_icmp_ge (tgt := 129) hx hb dX10_soonest_100 (by decide) (fun c_11 => absurd c_11 (by decide)) (fun c_11 => ?_)
  refine lv_iload_n hx hb dX10_soonest_103 rfl (lv_at hl 2 rfl) ?_
  refine lv_iload_n hx hb dX10_soonest_104 rfl (lv_at hl 0 rfl) ?_
  refine lv_iadd hx hb dX10_soonest_105 ?_
  refine lv_topi (fun z_12 ez_12 => ?_)
  obtain rfl : z_12 = (600 : Int32) := ez_12.trans (by decide)
  refine lv_iconst (v := 2) hx hb dX10_soonest_106 (by decide) ?_
  refine lv_idiv hx hb dX10_soonest_107 (by decide) ?_
  refine lv_topi (fun z_13 ez_13 => ?_)
  obtain rfl : z_13 = (300 : Int32) := ez_13.trans (by decide)
  refine lv_istore_n (lv' := [(3, .int 300), (2, .int 600), (1, .int 0), (0, .ref h0)]) hx hb dX10_soonest_108 rfl hl (by decide) rfl (fun ls hl => ?_)
  refine lv_aload_n hx hb dX10_soonest_109 rfl (lv_at hl 3 rfl) ?_
  refine lv_iload_n hx hb dX10_soonest_110 rfl (lv_at hl 0 rfl) ?_
  refine mc_Vi (rest := []) (wr := [(m_steps, .inl (y_steps, 400, .inl g_1))]) F hK hP hD hS hA (m_canBe0 l D h0 m_tape m_rule m_rules m_stair m_low m_high m_crack m_weight m_fire m_crowd m_state m_where m_words m_told m_breaks m_row m_tried m_steps m_paths s_tapeSize s_thrown 0 s_readStairs s_fault s_faultPlace s_wide s_tall s_hours s_fees s_looks s_end s_next s_kind s_which s_place s_read 300 ) ⟨gk_X10_217.1, gk_X10_217.2, Nat.le_of_ble_eq_true rfl, Nat.le_of_ble_eq_true rfl⟩ [1] [0] [] ⟨rfl, rfl, rfl, rfl, by decide⟩ rfl xT_move (fun _ _ _ => trivial) 1 rfl rfl rfl hl.1 rfl (Nat.le_of_ble_eq_true rfl) dX10_soonest_111 ⟨Nat.le_of_ble_eq_true rfl, Nat.le_of_ble_eq_true rfl⟩ (fun r_14 _ H locs hw hK1 hP hD hS => ?_)
  have hP : va_P D vwCl [(m_steps, .inl (y_steps, 400, .inl g_1)), (h0, .inr (9, [.ref m_tape, .int s_tapeSize, .int s_thrown, .ref m_rule, .ref m_rules, .int 0, .ref m_stair, .int s_readStairs, .int s_fault, .int s_faultPlace, .int s_wide, .int s_tall, .ref m_low, .ref m_high, .ref m_crack, .int 0, .ref m_weight, .ref m_fire, .ref m_crowd, .ref m_state, .ref m_where, .int s_hours, .int s_fees, .int s_looks, .ref m_words, .int s_end, .int s_next, .int s_kind, .int s_which, .int s_place, .int s_read, .ref m_told, .ref m_breaks, .ref m_row, .ref m_tried, .ref m_steps, .ref m_paths]))] H := hP
  have hD : va_D A [(m_steps, .inl (y_steps, 400, .inl g_1)), (h0, .inr (9, [.ref m_tape, .int s_tapeSize, .int s_thrown, .ref m_rule, .ref m_rules, .int 0, .ref m_stair, .int s_readStairs, .int s_fault, .int s_faultPlace, .int s_wide, .int s_tall, .ref m_low, .ref m_high, .ref m_crack, .int 0, .ref m_weight, .ref m_fire, .ref m_crowd, .ref m_state, .ref m_where, .int s_hours, .int s_fees, .int s_looks, .ref m_words, .int s_end, .int s_next, .int s_kind, .int s_which, .int s_place, .int s_read, .ref m_told, .ref m_breaks, .ref m_row, .ref m_tried, .ref m_steps, .ref m_paths]))] := hD
  have hw_15 : r_14 = 1 := hw
  obtain rfl : r_14 = 1 := hw_15
  refine lv_if_eq (tgt := 122) hx hb dX10_soonest_114 (by decide) (fun c_16 => absurd c_16 (by decide)) (fun c_16 => ?_)
  refine lv_iload_n hx hb dX10_soonest_117 rfl (lv_at hl 0 rfl) ?_
  refine lv_istore_n (lv' := [(2, .int 300), (3, .int 300), (1, .int 0), (0, .ref h0)]) hx hb dX10_soonest_118 rfl hl (by decide) rfl (fun ls hl => ?_)
  refine lv_goto (tgt := 126) hx hb dX10_soonest_119 (by decide) ?_
  refine lv_goto (tgt := 98) hx hb dX10_soonest_126 (by decide) ?_
  refine lv_iload_n hx hb dX10_soonest_98 rfl (lv_at hl 2 rfl) ?_
  refine lv_iload_n hx hb dX10_soonest_99 rfl (lv_at hl 0 rfl) ?_
  refine lv_icmp_ge (tgt := 129) hx hb dX10_soonest_100 (by decide) (fun c_17 => absurd c_17 (by decide)) (fun c_17 => ?_)
  refine lv_iload_n hx hb dX10_soonest_103 rfl (lv_at hl 2 rfl) ?_
  refine lv_iload_n hx hb dX10_soonest_104 rfl (lv_at hl 0 rfl) ?_
  refine lv_iadd hx hb dX10_soonest_105 ?_
  refine lv_topi (fun z_18 ez_18 => ?_)
  obtain rfl : z_18 = (300 : Int32) := ez_18.trans (by decide)
  refine lv_iconst (v := 2) hx hb dX10_soonest_106 (by decide) ?_
  refine lv_idiv hx hb dX10_soonest_107 (by decide) ?_
  refine lv_topi (fun z_19 ez_19 => ?_)
  obtain rfl : z_19 = (150 : Int32) := ez_19.trans (by decide)
  refine lv_istore_n (lv' := [(3, .int 150), (2, .int 300), (1, .int 0), (0, .ref h0)]) hx hb dX10_soonest_108 rfl hl (by decide) rfl (fun ls hl => ?_)
  refine lv_aload_n hx hb dX10_soonest_109 rfl (lv_at hl 3 rfl) ?_
  refine lv_iload_n hx hb dX10_soonest_110 rfl (lv_at hl 0 rfl) ?_
  refine mc_Vi (rest := []) (wr := [(m_steps, .inl (y_steps, 400, .inl g_1))]) F hK hP hD hS hA (m_canBe0 l D h0 m_tape m_rule m_rules m_stair m_low m_high m_crack m_weight m_fire m_crowd m_state m_where m_words m_told m_breaks m_row m_tried m_steps m_paths s_tapeSize s_thrown 0 s_readStairs s_fault s_faultPlace s_wide s_tall s_hours s_fees s_looks s_end s_next s_kind s_which s_place s_read 150 ) ⟨gk_X10_217.1, gk_X10_217.2, Nat.le_of_ble_eq_true rfl, Nat.le_of_ble_eq_true rfl⟩ [1] [0] [] ⟨rfl, rfl, rfl, rfl, by decide⟩ rfl xT_move (fun _ _ _ => trivial) 1 rfl rfl rfl hl.1 rfl (Nat.le_of_ble_eq_true rfl) dX10_soonest_111 ⟨Nat.le_of_ble_eq_true rfl, Nat.le_of_ble_eq_true rfl⟩ (fun r_20 _ H locs hw hK1 hP hD hS => ?_)
  have hP : va_P D vwCl [(m_steps, .inl (y_steps, 400, .inl g_1)), (h0, .inr (9, [.ref m_tape, .int s_tapeSize, .int s_thrown, .ref m_rule, .ref m_rules, .int 0, .ref m_stair, .int s_readStairs, .int s_fault, .int s_faultPlace, .int s_wide, .int s_tall, .ref m_low, .ref m_high, .ref m_crack, .int 0, .ref m_weight, .ref m_fire, .ref m_crowd, .ref m_state, .ref m_where, .int s_hours, .int s_fees, .int s_looks, .ref m_words, .int s_end, .int s_next, .int s_kind, .int s_which, .int s_place, .int s_read, .ref m_told, .ref m_breaks, .ref m_row, .ref m_tried, .ref m_steps, .ref m_paths]))] H := hP
  have hD : va_D A [(m_steps, .inl (y_steps, 400, .inl g_1)), (h0, .inr (9, [.ref m_tape, .int s_tapeSize, .int s_thrown, .ref m_rule, .ref m_rules, .int 0, .ref m_stair, .int s_readStairs, .int s_fault, .int s_faultPlace, .int s_wide, .int s_tall, .ref m_low, .ref m_high, .ref m_crack, .int 0, .ref m_weight, .ref m_fire, .ref m_crowd, .ref m_state, .ref m_where, .int s_hours, .int s_fees, .int s_looks, .ref m_words, .int s_end, .int s_next, .int s_kind, .int s_which, .int s_place, .int s_read, .ref m_told, .ref m_breaks, .ref m_row, .ref m_tried, .ref m_steps, .ref m_paths]))] := hD
  have hw_21 : r_20 = 1 := hw
  obtain rfl : r_20 = 1 := hw_21
  refine lv_if_eq (tgt := 122) hx hb dX10_soonest_114 (by decide) (fun c_22 => absurd c_22 (by decide)) (fun c_22 => ?_)
  refine lv_iload_n hx hb dX10_soonest_117 rfl (lv_at hl 0 rfl) ?_
  refine lv_istore_n (lv' := [(2, .int 150), (3, .int 150), (1, .int 0), (0, .ref h0)]) hx hb dX10_soonest_118 rfl hl (by decide) rfl (fun ls hl => ?_)
  refine lv_goto (tgt := 126) hx hb dX10_soonest_119 (by decide) ?_
  refine lv_goto (tgt := 98) hx hb dX10_soonest_126 (by decide) ?_
  refine lv_iload_n hx hb dX10_soonest_98 rfl (lv_at hl 2 rfl) ?_
  refine lv_iload_n hx hb dX10_soonest_99 rfl (lv_at hl 0 rfl) ?_
  refine lv_icmp_ge (tgt := 129) hx hb dX10_soonest_100 (by decide) (fun c_23 => absurd c_23 (by decide)) (fun c_23 => ?_)
  refine lv_iload_n hx hb dX10_soonest_103 rfl (lv_at hl 2 rfl) ?_
  refine lv_iload_n hx hb dX10_soonest_104 rfl (lv_at hl 0 rfl) ?_
  refine lv_iadd hx hb dX10_soonest_105 ?_
  refine lv_topi (fun z_24 ez_24 => ?_)
  obtain rfl : z_24 = (150 : Int32) := ez_24.trans (by decide)
  refine lv_iconst (v := 2) hx hb dX10_soonest_106 (by decide) ?_
  refine lv_idiv hx hb dX10_soonest_107 (by decide) ?_
  refine lv_topi (fun z_25 ez_25 => ?_)
  obtain rfl : z_25 = (75 : Int32) := ez_25.trans (by decide)
  refine lv_istore_n (lv' := [(3, .int 75), (2, .int 150), (1, .int 0), (0, .ref h0)]) hx hb dX10_soonest_108 rfl hl (by decide) rfl (fun ls hl => ?_)
  refine lv_aload_n hx hb dX10_soonest_109 rfl (lv_at hl 3 rfl) ?_
  refine lv_iload_n hx hb dX10_soonest_110 rfl (lv_at hl 0 rfl) ?_
  refine mc_Vi (rest := []) (wr := [(m_steps, .inl (y_steps, 400, .inl g_1))]) F hK hP hD hS hA (m_canBe0 l D h0 m_tape m_rule m_rules m_stair m_low m_high m_crack m_weight m_fire m_crowd m_state m_where m_words m_told m_breaks m_row m_tried m_steps m_paths s_tapeSize s_thrown 0 s_readStairs s_fault s_faultPlace s_wide s_tall s_hours s_fees s_looks s_end s_next s_kind s_which s_place s_read 75 ) ⟨gk_X10_217.1, gk_X10_217.2, Nat.le_of_ble_eq_true rfl, Nat.le_of_ble_eq_true rfl⟩ [1] [0] [] ⟨rfl, rfl, rfl, rfl, by decide⟩ rfl xT_move (fun _ _ _ => trivial) 1 rfl rfl rfl hl.1 rfl (Nat.le_of_ble_eq_true rfl) dX10_soonest_111 ⟨Nat.le_of_ble_eq_true rfl, Nat.le_of_ble_eq_true rfl⟩ (fun r_26 _ H locs hw hK1 hP hD hS => ?_)
  have hP : va_P D vwCl [(m_steps, .inl (y_steps, 400, .inl g_1)), (h0, .inr (9, [.ref m_tape, .int s_tapeSize, .int s_thrown, .ref m_rule, .ref m_rules, .int 0, .ref m_stair, .int s_readStairs, .int s_fault, .int s_faultPlace, .int s_wide, .int s_tall, .ref m_low, .ref m_high, .ref m_crack, .int 0, .ref m_weight, .ref m_fire, .ref m_crowd, .ref m_state, .ref m_where, .int s_hours, .int s_fees, .int s_looks, .ref m_words, .int s_end, .int s_next, .int s_kind, .int s_which, .int s_place, .int s_read, .ref m_told, .ref m_breaks, .ref m_row, .ref m_tried, .ref m_steps, .ref m_paths]))] H := hP
  have hD : va_D A [(m_steps, .inl (y_steps, 400, .inl g_1)), (h0, .inr (9, [.ref m_tape, .int s_tapeSize, .int s_thrown, .ref m_rule, .ref m_rules, .int 0, .ref m_stair, .int s_readStairs, .int s_fault, .int s_faultPlace, .int s_wide, .int s_tall, .ref m_low, .ref m_high, .ref m_crack, .int 0, .ref m_weight, .ref m_fire, .ref m_crowd, .ref m_state, .ref m_where, .int s_hours, .int s_fees, .int s_looks, .ref m_words, .int s_end, .int s_next, .int s_kind, .int s_which, .int s_place, .int s_read, .ref m_told, .ref m_breaks, .ref m_row, .ref m_tried, .ref m_steps, .ref m_paths]))] := hD
  have hw_27 : r_26 = 1 := hw
  obtain rfl : r_26 = 1 := hw_27
  refine lv_if_eq (tgt := 122) hx hb dX10_soonest_114 (by decide) (fun c_28 => absurd c_28 (by decide)) (fun c_28 => ?_)
  refine lv_iload_n hx hb dX10_soonest_117 rfl (lv_at hl 0 rfl) ?_
  refine lv_istore_n (lv' := [(2, .int 75), (3, .int 75), (1, .int 0), (0, .ref h0)]) hx hb dX10_soonest_118 rfl hl (by decide) rfl (fun ls hl => ?_)
  refine lv_goto (tgt := 126) hx hb dX10_soonest_119 (by decide) ?_
  refine lv_goto (tgt := 98) hx hb dX10_soonest_126 (by decide) ?_
  refine lv_iload_n hx hb dX10_soonest_98 rfl (lv_at hl 2 rfl) ?_
  refine lv_iload_n hx hb dX10_soonest_99 rfl (lv_at hl 0 rfl) ?_
  refine lv_icmp_ge (tgt := 129) hx hb dX10_soonest_100 (by decide) (fun c_29 => absurd c_29 (by decide)) (fun c_29 => ?_)
  refine lv_iload_n hx hb dX10_soonest_103 rfl (lv_at hl 2 rfl) ?_
  refine lv_iload_n hx hb dX10_soonest_104 rfl (lv_at hl 0 rfl) ?_
  refine lv_iadd hx hb dX10_soonest_105 ?_
  refine lv_topi (fun z_30 ez_30 => ?_)
  obtain rfl : z_30 = (75 : Int32) := ez_30.trans (by decide)
  refine lv_iconst (v := 2) hx hb dX10_soonest_106 (by decide) ?_
  refine lv_idiv hx hb dX10_soonest_107 (by decide) ?_
  refine lv_topi (fun z_31 ez_31 => ?_)
  obtain rfl : z_31 = (37 : Int32) := ez_31.trans (by decide)
  refine lv_istore_n (lv' := [(3, .int 37), (2, .int 75), (1, .int 0), (0, .ref h0)]) hx hb dX10_soonest_108 rfl hl (by decide) rfl (fun ls hl => ?_)
  refine lv_aload_n hx hb dX10_soonest_109 rfl (lv_at hl 3 rfl) ?_
  refine lv_iload_n hx hb dX10_soonest_110 rfl (lv_at hl 0 rfl) ?_
  refine mc_Vi (rest := []) (wr := [(m_steps, .inl (y_steps, 400, .inl g_1))]) F hK hP hD hS hA (m_canBe0 l D h0 m_tape m_rule m_rules m_stair m_low m_high m_crack m_weight m_fire m_crowd m_state m_where m_words m_told m_breaks m_row m_tried m_steps m_paths s_tapeSize s_thrown 0 s_readStairs s_fault s_faultPlace s_wide s_tall s_hours s_fees s_looks s_end s_next s_kind s_which s_place s_read 37 ) ⟨gk_X10_217.1, gk_X10_217.2, Nat.le_of_ble_eq_true rfl, Nat.le_of_ble_eq_true rfl⟩ [1] [0] [] ⟨rfl, rfl, rfl, rfl, by decide⟩ rfl xT_move (fun _ _ _ => trivial) 1 rfl rfl rfl hl.1 rfl (Nat.le_of_ble_eq_true rfl) dX10_soonest_111 ⟨Nat.le_of_ble_eq_true rfl, Nat.le_of_ble_eq_true rfl⟩ (fun r_32 _ H locs hw hK1 hP hD hS => ?_)
  have hP : va_P D vwCl [(m_steps, .inl (y_steps, 400, .inl g_1)), (h0, .inr (9, [.ref m_tape, .int s_tapeSize, .int s_thrown, .ref m_rule, .ref m_rules, .int 0, .ref m_stair, .int s_readStairs, .int s_fault, .int s_faultPlace, .int s_wide, .int s_tall, .ref m_low, .ref m_high, .ref m_crack, .int 0, .ref m_weight, .ref m_fire, .ref m_crowd, .ref m_state, .ref m_where, .int s_hours, .int s_fees, .int s_looks, .ref m_words, .int s_end, .int s_next, .int s_kind, .int s_which, .int s_place, .int s_read, .ref m_told, .ref m_breaks, .ref m_row, .ref m_tried, .ref m_steps, .ref m_paths]))] H := hP
  have hD : va_D A [(m_steps, .inl (y_steps, 400, .inl g_1)), (h0, .inr (9, [.ref m_tape, .int s_tapeSize, .int s_thrown, .ref m_rule, .ref m_rules, .int 0, .ref m_stair, .int s_readStairs, .int s_fault, .int s_faultPlace, .int s_wide, .int s_tall, .ref m_low, .ref m_high, .ref m_crack, .int 0, .ref m_weight, .ref m_fire, .ref m_crowd, .ref m_state, .ref m_where, .int s_hours, .int s_fees, .int s_looks, .ref m_words, .int s_end, .int s_next, .int s_kind, .int s_which, .int s_place, .int s_read, .ref m_told, .ref m_breaks, .ref m_row, .ref m_tried, .ref m_steps, .ref m_paths]))] := hD
  have hw_33 : r_32 = 1 := hw
  obtain rfl : r_32 = 1 := hw_33
  refine lv_if_eq (tgt := 122) hx hb dX10_soonest_114 (by decide) (fun c_34 => absurd c_34 (by decide)) (fun c_34 => ?_)
  refine lv_iload_n hx hb dX10_soonest_117 rfl (lv_at hl 0 rfl) ?_
  refine lv_istore_n (lv' := [(2, .int 37), (3, .int 37), (1, .int 0), (0, .ref h0)]) hx hb dX10_soonest_118 rfl hl (by decide) rfl (fun ls hl => ?_)
  refine lv_goto (tgt := 126) hx hb dX10_soonest_119 (by decide) ?_
  refine lv_goto (tgt := 98) hx hb dX10_soonest_126 (by decide) ?_
  refine lv_iload_n hx hb dX10_soonest_98 rfl (lv_at hl 2 rfl) ?_
  refine lv_iload_n hx hb dX10_soonest_99 rfl (lv_at hl 0 rfl) ?_
  refine lv_icmp_ge (tgt := 129) hx hb dX10_soonest_100 (by decide) (fun c_35 => absurd c_35 (by decide)) (fun c_35 => ?_)
  refine lv_iload_n hx hb dX10_soonest_103 rfl (lv_at hl 2 rfl) ?_
  refine lv_iload_n hx hb dX10_soonest_104 rfl (lv_at hl 0 rfl) ?_
  refine lv_iadd hx hb dX10_soonest_105 ?_
  refine lv_topi (fun z_36 ez_36 => ?_)
  obtain rfl : z_36 = (37 : Int32) := ez_36.trans (by decide)
  refine lv_iconst (v := 2) hx hb dX10_soonest_106 (by decide) ?_
  refine lv_idiv hx hb dX10_soonest_107 (by decide) ?_
  refine lv_topi (fun z_37 ez_37 => ?_)
  obtain rfl : z_37 = (18 : Int32) := ez_37.trans (by decide)
  refine lv_istore_n (lv' := [(3, .int 18), (2, .int 37), (1, .int 0), (0, .ref h0)]) hx hb dX10_soonest_108 rfl hl (by decide) rfl (fun ls hl => ?_)
  refine lv_aload_n hx hb dX10_soonest_109 rfl (lv_at hl 3 rfl) ?_
  refine lv_iload_n hx hb dX10_soonest_110 rfl (lv_at hl 0 rfl) ?_
  refine mc_Vi (rest := []) (wr := [(m_steps, .inl (y_steps, 400, .inl g_1))]) F hK hP hD hS hA (m_canBe0 l D h0 m_tape m_rule m_rules m_stair m_low m_high m_crack m_weight m_fire m_crowd m_state m_where m_words m_told m_breaks m_row m_tried m_steps m_paths s_tapeSize s_thrown 0 s_readStairs s_fault s_faultPlace s_wide s_tall s_hours s_fees s_looks s_end s_next s_kind s_which s_place s_read 18 ) ⟨gk_X10_217.1, gk_X10_217.2, Nat.le_of_ble_eq_true rfl, Nat.le_of_ble_eq_true rfl⟩ [1] [0] [] ⟨rfl, rfl, rfl, rfl, by decide⟩ rfl xT_move (fun _ _ _ => trivial) 1 rfl rfl rfl hl.1 rfl (Nat.le_of_ble_eq_true rfl) dX10_soonest_111 ⟨Nat.le_of_ble_eq_true rfl, Nat.le_of_ble_eq_true rfl⟩ (fun r_38 _ H locs hw hK1 hP hD hS => ?_)
  have hP : va_P D vwCl [(m_steps, .inl (y_steps, 400, .inl g_1)), (h0, .inr (9, [.ref m_tape, .int s_tapeSize, .int s_thrown, .ref m_rule, .ref m_rules, .int 0, .ref m_stair, .int s_readStairs, .int s_fault, .int s_faultPlace, .int s_wide, .int s_tall, .ref m_low, .ref m_high, .ref m_crack, .int 0, .ref m_weight, .ref m_fire, .ref m_crowd, .ref m_state, .ref m_where, .int s_hours, .int s_fees, .int s_looks, .ref m_words, .int s_end, .int s_next, .int s_kind, .int s_which, .int s_place, .int s_read, .ref m_told, .ref m_breaks, .ref m_row, .ref m_tried, .ref m_steps, .ref m_paths]))] H := hP
  have hD : va_D A [(m_steps, .inl (y_steps, 400, .inl g_1)), (h0, .inr (9, [.ref m_tape, .int s_tapeSize, .int s_thrown, .ref m_rule, .ref m_rules, .int 0, .ref m_stair, .int s_readStairs, .int s_fault, .int s_faultPlace, .int s_wide, .int s_tall, .ref m_low, .ref m_high, .ref m_crack, .int 0, .ref m_weight, .ref m_fire, .ref m_crowd, .ref m_state, .ref m_where, .int s_hours, .int s_fees, .int s_looks, .ref m_words, .int s_end, .int s_next, .int s_kind, .int s_which, .int s_place, .int s_read, .ref m_told, .ref m_breaks, .ref m_row, .ref m_tried, .ref m_steps, .ref m_paths]))] := hD
  have hw_39 : r_38 = 1 := hw
  obtain rfl : r_38 = 1 := hw_39
  refine lv_if_eq (tgt := 122) hx hb dX10_soonest_114 (by decide) (fun c_40 => absurd c_40 (by decide)) (fun c_40 => ?_)
  refine lv_iload_n hx hb dX10_soonest_117 rfl (lv_at hl 0 rfl) ?_
  refine lv_istore_n (lv' := [(2, .int 18), (3, .int 18), (1, .int 0), (0, .ref h0)]) hx hb dX10_soonest_118 rfl hl (by decide) rfl (fun ls hl => ?_)
  refine lv_goto (tgt := 126) hx hb dX10_soonest_119 (by decide) ?_
  refine lv_goto (tgt := 98) hx hb dX10_soonest_126 (by decide) ?_
  refine lv_iload_n hx hb dX10_soonest_98 rfl (lv_at hl 2 rfl) ?_
  refine lv_iload_n hx hb dX10_soonest_99 rfl (lv_at hl 0 rfl) ?_
  refine lv_icmp_ge (tgt := 129) hx hb dX10_soonest_100 (by decide) (fun c_41 => absurd c_41 (by decide)) (fun c_41 => ?_)
  refine lv_iload_n hx hb dX10_soonest_103 rfl (lv_at hl 2 rfl) ?_
  refine lv_iload_n hx hb dX10_soonest_104 rfl (lv_at hl 0 rfl) ?_
  refine lv_iadd hx hb dX10_soonest_105 ?_
  refine lv_topi (fun z_42 ez_42 => ?_)
  obtain rfl : z_42 = (18 : Int32) := ez_42.trans (by decide)
  refine lv_iconst (v := 2) hx hb dX10_soonest_106 (by decide) ?_
  refine lv_idiv hx hb dX10_soonest_107 (by decide) ?_
  refine lv_topi (fun z_43 ez_43 => ?_)
  obtain rfl : z_43 = (9 : Int32) := ez_43.trans (by decide)
  refine lv_istore_n (lv' := [(3, .int 9), (2, .int 18), (1, .int 0), (0, .ref h0)]) hx hb dX10_soonest_108 rfl hl (by decide) rfl (fun ls hl => ?_)
  refine lv_aload_n hx hb dX10_soonest_109 rfl (lv_at hl 3 rfl) ?_
  refine lv_iload_n hx hb dX10_soonest_110 rfl (lv_at hl 0 rfl) ?_
  refine mc_Vi (rest := []) (wr := [(m_steps, .inl (y_steps, 400, .inl g_1))]) F hK hP hD hS hA (m_canBe0 l D h0 m_tape m_rule m_rules m_stair m_low m_high m_crack m_weight m_fire m_crowd m_state m_where m_words m_told m_breaks m_row m_tried m_steps m_paths s_tapeSize s_thrown 0 s_readStairs s_fault s_faultPlace s_wide s_tall s_hours s_fees s_looks s_end s_next s_kind s_which s_place s_read 9 ) ⟨gk_X10_217.1, gk_X10_217.2, Nat.le_of_ble_eq_true rfl, Nat.le_of_ble_eq_true rfl⟩ [1] [0] [] ⟨rfl, rfl, rfl, rfl, by decide⟩ rfl xT_move (fun _ _ _ => trivial) 1 rfl rfl rfl hl.1 rfl (Nat.le_of_ble_eq_true rfl) dX10_soonest_111 ⟨Nat.le_of_ble_eq_true rfl, Nat.le_of_ble_eq_true rfl⟩ (fun r_44 _ H locs hw hK1 hP hD hS => ?_)
  have hP : va_P D vwCl [(m_steps, .inl (y_steps, 400, .inl g_1)), (h0, .inr (9, [.ref m_tape, .int s_tapeSize, .int s_thrown, .ref m_rule, .ref m_rules, .int 0, .ref m_stair, .int s_readStairs, .int s_fault, .int s_faultPlace, .int s_wide, .int s_tall, .ref m_low, .ref m_high, .ref m_crack, .int 0, .ref m_weight, .ref m_fire, .ref m_crowd, .ref m_state, .ref m_where, .int s_hours, .int s_fees, .int s_looks, .ref m_words, .int s_end, .int s_next, .int s_kind, .int s_which, .int s_place, .int s_read, .ref m_told, .ref m_breaks, .ref m_row, .ref m_tried, .ref m_steps, .ref m_paths]))] H := hP
  have hD : va_D A [(m_steps, .inl (y_steps, 400, .inl g_1)), (h0, .inr (9, [.ref m_tape, .int s_tapeSize, .int s_thrown, .ref m_rule, .ref m_rules, .int 0, .ref m_stair, .int s_readStairs, .int s_fault, .int s_faultPlace, .int s_wide, .int s_tall, .ref m_low, .ref m_high, .ref m_crack, .int 0, .ref m_weight, .ref m_fire, .ref m_crowd, .ref m_state, .ref m_where, .int s_hours, .int s_fees, .int s_looks, .ref m_words, .int s_end, .int s_next, .int s_kind, .int s_which, .int s_place, .int s_read, .ref m_told, .ref m_breaks, .ref m_row, .ref m_tried, .ref m_steps, .ref m_paths]))] := hD
  have hw_45 : r_44 = 1 := hw
  obtain rfl : r_44 = 1 := hw_45
  refine lv_if_eq (tgt := 122) hx hb dX10_soonest_114 (by decide) (fun c_46 => absurd c_46 (by decide)) (fun c_46 => ?_)
  refine lv_iload_n hx hb dX10_soonest_117 rfl (lv_at hl 0 rfl) ?_
  refine lv_istore_n (lv' := [(2, .int 9), (3, .int 9), (1, .int 0), (0, .ref h0)]) hx hb dX10_soonest_118 rfl hl (by decide) rfl (fun ls hl => ?_)
  refine lv_goto (tgt := 126) hx hb dX10_soonest_119 (by decide) ?_
  refine lv_goto (tgt := 98) hx hb dX10_soonest_126 (by decide) ?_
  refine lv_iload_n hx hb dX10_soonest_98 rfl (lv_at hl 2 rfl) ?_
  refine lv_iload_n hx hb dX10_soonest_99 rfl (lv_at hl 0 rfl) ?_
  refine lv_icmp_ge (tgt := 129) hx hb dX10_soonest_100 (by decide) (fun c_47 => absurd c_47 (by decide)) (fun c_47 => ?_)
  refine lv_iload_n hx hb dX10_soonest_103 rfl (lv_at hl 2 rfl) ?_
  refine lv_iload_n hx hb dX10_soonest_104 rfl (lv_at hl 0 rfl) ?_
  refine lv_iadd hx hb dX10_soonest_105 ?_
  refine lv_topi (fun z_48 ez_48 => ?_)
  obtain rfl : z_48 = (9 : Int32) := ez_48.trans (by decide)
  refine lv_iconst (v := 2) hx hb dX10_soonest_106 (by decide) ?_
  refine lv_idiv hx hb dX10_soonest_107 (by decide) ?_
  refine lv_topi (fun z_49 ez_49 => ?_)
  obtain rfl : z_49 = (4 : Int32) := ez_49.trans (by decide)
  refine lv_istore_n (lv' := [(3, .int 4), (2, .int 9), (1, .int 0), (0, .ref h0)]) hx hb dX10_soonest_108 rfl hl (by decide) rfl (fun ls hl => ?_)
  refine lv_aload_n hx hb dX10_soonest_109 rfl (lv_at hl 3 rfl) ?_
  refine lv_iload_n hx hb dX10_soonest_110 rfl (lv_at hl 0 rfl) ?_
  refine mc_Vi (rest := []) (wr := [(m_steps, .inl (y_steps, 400, .inl g_1))]) F hK hP hD hS hA (m_canBe0 l D h0 m_tape m_rule m_rules m_stair m_low m_high m_crack m_weight m_fire m_crowd m_state m_where m_words m_told m_breaks m_row m_tried m_steps m_paths s_tapeSize s_thrown 0 s_readStairs s_fault s_faultPlace s_wide s_tall s_hours s_fees s_looks s_end s_next s_kind s_which s_place s_read 4 ) ⟨gk_X10_217.1, gk_X10_217.2, Nat.le_of_ble_eq_true rfl, Nat.le_of_ble_eq_true rfl⟩ [1] [0] [] ⟨rfl, rfl, rfl, rfl, by decide⟩ rfl xT_move (fun _ _ _ => trivial) 1 rfl rfl rfl hl.1 rfl (Nat.le_of_ble_eq_true rfl) dX10_soonest_111 ⟨Nat.le_of_ble_eq_true rfl, Nat.le_of_ble_eq_true rfl⟩ (fun r_50 _ H locs hw hK1 hP hD hS => ?_)
  have hP : va_P D vwCl [(m_steps, .inl (y_steps, 400, .inl g_1)), (h0, .inr (9, [.ref m_tape, .int s_tapeSize, .int s_thrown, .ref m_rule, .ref m_rules, .int 0, .ref m_stair, .int s_readStairs, .int s_fault, .int s_faultPlace, .int s_wide, .int s_tall, .ref m_low, .ref m_high, .ref m_crack, .int 0, .ref m_weight, .ref m_fire, .ref m_crowd, .ref m_state, .ref m_where, .int s_hours, .int s_fees, .int s_looks, .ref m_words, .int s_end, .int s_next, .int s_kind, .int s_which, .int s_place, .int s_read, .ref m_told, .ref m_breaks, .ref m_row, .ref m_tried, .ref m_steps, .ref m_paths]))] H := hP
  have hD : va_D A [(m_steps, .inl (y_steps, 400, .inl g_1)), (h0, .inr (9, [.ref m_tape, .int s_tapeSize, .int s_thrown, .ref m_rule, .ref m_rules, .int 0, .ref m_stair, .int s_readStairs, .int s_fault, .int s_faultPlace, .int s_wide, .int s_tall, .ref m_low, .ref m_high, .ref m_crack, .int 0, .ref m_weight, .ref m_fire, .ref m_crowd, .ref m_state, .ref m_where, .int s_hours, .int s_fees, .int s_looks, .ref m_words, .int s_end, .int s_next, .int s_kind, .int s_which, .int s_place, .int s_read, .ref m_told, .ref m_breaks, .ref m_row, .ref m_tried, .ref m_steps, .ref m_paths]))] := hD
  have hw_51 : r_50 = 1 := hw
  obtain rfl : r_50 = 1 := hw_51
  refine lv_if_eq (tgt := 122) hx hb dX10_soonest_114 (by decide) (fun c_52 => absurd c_52 (by decide)) (fun c_52 => ?_)
  refine lv_iload_n hx hb dX10_soonest_117 rfl (lv_at hl 0 rfl) ?_
  refine lv_istore_n (lv' := [(2, .int 4), (3, .int 4), (1, .int 0), (0, .ref h0)]) hx hb dX10_soonest_118 rfl hl (by decide) rfl (fun ls hl => ?_)
  refine lv_goto (tgt := 126) hx hb dX10_soonest_119 (by decide) ?_
  refine lv_goto (tgt := 98) hx hb dX10_soonest_126 (by decide) ?_
  refine lv_iload_n hx hb dX10_soonest_98 rfl (lv_at hl 2 rfl) ?_
  refine lv_iload_n hx hb dX10_soonest_99 rfl (lv_at hl 0 rfl) ?_
  refine lv_icmp_ge (tgt := 129) hx hb dX10_soonest_100 (by decide) (fun c_53 => absurd c_53 (by decide)) (fun c_53 => ?_)
  refine lv_iload_n hx hb dX10_soonest_103 rfl (lv_at hl 2 rfl) ?_
  refine lv_iload_n hx hb dX10_soonest_104 rfl (lv_at hl 0 rfl) ?_
  refine lv_iadd hx hb dX10_soonest_105 ?_
  refine lv_topi (fun z_54 ez_54 => ?_)
  obtain rfl : z_54 = (4 : Int32) := ez_54.trans (by decide)
  refine lv_iconst (v := 2) hx hb dX10_soonest_106 (by decide) ?_
  refine lv_idiv hx hb dX10_soonest_107 (by decide) ?_
  refine lv_topi (fun z_55 ez_55 => ?_)
  obtain rfl : z_55 = (2 : Int32) := ez_55.trans (by decide)
  refine lv_istore_n (lv' := [(3, .int 2), (2, .int 4), (1, .int 0), (0, .ref h0)]) hx hb dX10_soonest_108 rfl hl (by decide) rfl (fun ls hl => ?_)
  refine lv_aload_n hx hb dX10_soonest_109 rfl (lv_at hl 3 rfl) ?_
  refine lv_iload_n hx hb dX10_soonest_110 rfl (lv_at hl 0 rfl) ?_
  refine mc_Vi (rest := []) (wr := [(m_steps, .inl (y_steps, 400, .inl g_1))]) F hK hP hD hS hA (m_canBe0 l D h0 m_tape m_rule m_rules m_stair m_low m_high m_crack m_weight m_fire m_crowd m_state m_where m_words m_told m_breaks m_row m_tried m_steps m_paths s_tapeSize s_thrown 0 s_readStairs s_fault s_faultPlace s_wide s_tall s_hours s_fees s_looks s_end s_next s_kind s_which s_place s_read 2 ) ⟨gk_X10_217.1, gk_X10_217.2, Nat.le_of_ble_eq_true rfl, Nat.le_of_ble_eq_true rfl⟩ [1] [0] [] ⟨rfl, rfl, rfl, rfl, by decide⟩ rfl xT_move (fun _ _ _ => trivial) 1 rfl rfl rfl hl.1 rfl (Nat.le_of_ble_eq_true rfl) dX10_soonest_111 ⟨Nat.le_of_ble_eq_true rfl, Nat.le_of_ble_eq_true rfl⟩ (fun r_56 _ H locs hw hK1 hP hD hS => ?_)
  have hP : va_P D vwCl [(m_steps, .inl (y_steps, 400, .inl g_1)), (h0, .inr (9, [.ref m_tape, .int s_tapeSize, .int s_thrown, .ref m_rule, .ref m_rules, .int 0, .ref m_stair, .int s_readStairs, .int s_fault, .int s_faultPlace, .int s_wide, .int s_tall, .ref m_low, .ref m_high, .ref m_crack, .int 0, .ref m_weight, .ref m_fire, .ref m_crowd, .ref m_state, .ref m_where, .int s_hours, .int s_fees, .int s_looks, .ref m_words, .int s_end, .int s_next, .int s_kind, .int s_which, .int s_place, .int s_read, .ref m_told, .ref m_breaks, .ref m_row, .ref m_tried, .ref m_steps, .ref m_paths]))] H := hP
  have hD : va_D A [(m_steps, .inl (y_steps, 400, .inl g_1)), (h0, .inr (9, [.ref m_tape, .int s_tapeSize, .int s_thrown, .ref m_rule, .ref m_rules, .int 0, .ref m_stair, .int s_readStairs, .int s_fault, .int s_faultPlace, .int s_wide, .int s_tall, .ref m_low, .ref m_high, .ref m_crack, .int 0, .ref m_weight, .ref m_fire, .ref m_crowd, .ref m_state, .ref m_where, .int s_hours, .int s_fees, .int s_looks, .ref m_words, .int s_end, .int s_next, .int s_kind, .int s_which, .int s_place, .int s_read, .ref m_told, .ref m_breaks, .ref m_row, .ref m_tried, .ref m_steps, .ref m_paths]))] := hD
  have hw_57 : r_56 = 1 := hw
  obtain rfl : r_56 = 1 := hw_57
  refine lv_if_eq (tgt := 122) hx hb dX10_soonest_114 (by decide) (fun c_58 => absurd c_58 (by decide)) (fun c_58 => ?_)
  refine lv_iload_n hx hb dX10_soonest_117 rfl (lv_at hl 0 rfl) ?_
  refine lv_istore_n (lv' := [(2, .int 2), (3, .int 2), (1, .int 0), (0, .ref h0)]) hx hb dX10_soonest_118 rfl hl (by decide) rfl (fun ls hl => ?_)
  refine lv_goto (tgt := 126) hx hb dX10_soonest_119 (by decide) ?_
  refine lv_goto (tgt := 98) hx hb dX10_soonest_126 (by decide) ?_
  refine lv_iload_n hx hb dX10_soonest_98 rfl (lv_at hl 2 rfl) ?_
  refine lv_iload_n hx hb dX10_soonest_99 rfl (lv_at hl 0 rfl) ?_
  refine lv_icmp_ge (tgt := 129) hx hb dX10_soonest_100 (by decide) (fun c_59 => absurd c_59 (by decide)) (fun c_59 => ?_)
  refine lv_iload_n hx hb dX10_soonest_103 rfl (lv_at hl 2 rfl) ?_
  refine lv_iload_n hx hb dX10_soonest_104 rfl (lv_at hl 0 rfl) ?_
  refine lv_iadd hx hb dX10_soonest_105 ?_
  refine lv_topi (fun z_60 ez_60 => ?_)
  obtain rfl : z_60 = (2 : Int32) := ez_60.trans (by decide)
  refine lv_iconst (v := 2) hx hb dX10_soonest_106 (by decide) ?_
  refine lv_idiv hx hb dX10_soonest_107 (by decide) ?_
  refine lv_topi (fun z_61 ez_61 => ?_)
  obtain rfl : z_61 = (1 : Int32) := ez_61.trans (by decide)
  refine lv_istore_n (lv' := [(3, .int 1), (2, .int 2), (1, .int 0), (0, .ref h0)]) hx hb dX10_soonest_108 rfl hl (by decide) rfl (fun ls hl => ?_)
  refine lv_aload_n hx hb dX10_soonest_109 rfl (lv_at hl 3 rfl) ?_
  refine lv_iload_n hx hb dX10_soonest_110 rfl (lv_at hl 0 rfl) ?_
  refine mc_Vi (rest := []) (wr := [(m_steps, .inl (y_steps, 400, .inl g_1))]) F hK hP hD hS hA (m_canBe0 l D h0 m_tape m_rule m_rules m_stair m_low m_high m_crack m_weight m_fire m_crowd m_state m_where m_words m_told m_breaks m_row m_tried m_steps m_paths s_tapeSize s_thrown 0 s_readStairs s_fault s_faultPlace s_wide s_tall s_hours s_fees s_looks s_end s_next s_kind s_which s_place s_read 1 ) ⟨gk_X10_217.1, gk_X10_217.2, Nat.le_of_ble_eq_true rfl, Nat.le_of_ble_eq_true rfl⟩ [1] [0] [] ⟨rfl, rfl, rfl, rfl, by decide⟩ rfl xT_move (fun _ _ _ => trivial) 1 rfl rfl rfl hl.1 rfl (Nat.le_of_ble_eq_true rfl) dX10_soonest_111 ⟨Nat.le_of_ble_eq_true rfl, Nat.le_of_ble_eq_true rfl⟩ (fun r_62 _ H locs hw hK1 hP hD hS => ?_)
  have hP : va_P D vwCl [(m_steps, .inl (y_steps, 400, .inl g_1)), (h0, .inr (9, [.ref m_tape, .int s_tapeSize, .int s_thrown, .ref m_rule, .ref m_rules, .int 0, .ref m_stair, .int s_readStairs, .int s_fault, .int s_faultPlace, .int s_wide, .int s_tall, .ref m_low, .ref m_high, .ref m_crack, .int 0, .ref m_weight, .ref m_fire, .ref m_crowd, .ref m_state, .ref m_where, .int s_hours, .int s_fees, .int s_looks, .ref m_words, .int s_end, .int s_next, .int s_kind, .int s_which, .int s_place, .int s_read, .ref m_told, .ref m_breaks, .ref m_row, .ref m_tried, .ref m_steps, .ref m_paths]))] H := hP
  have hD : va_D A [(m_steps, .inl (y_steps, 400, .inl g_1)), (h0, .inr (9, [.ref m_tape, .int s_tapeSize, .int s_thrown, .ref m_rule, .ref m_rules, .int 0, .ref m_stair, .int s_readStairs, .int s_fault, .int s_faultPlace, .int s_wide, .int s_tall, .ref m_low, .ref m_high, .ref m_crack, .int 0, .ref m_weight, .ref m_fire, .ref m_crowd, .ref m_state, .ref m_where, .int s_hours, .int s_fees, .int s_looks, .ref m_words, .int s_end, .int s_next, .int s_kind, .int s_which, .int s_place, .int s_read, .ref m_told, .ref m_breaks, .ref m_row, .ref m_tried, .ref m_steps, .ref m_paths]))] := hD
  have hw_63 : r_62 = 1 := hw
  obtain rfl : r_62 = 1 := hw_63
  refine lv_if_eq (tgt := 122) hx hb dX10_soonest_114 (by decide) (fun c_64 => absurd c_64 (by decide)) (fun c_64 => ?_)
  refine lv_iload_n hx hb dX10_soonest_117 rfl (lv_at hl 0 rfl) ?_
  refine lv_istore_n (lv' := [(2, .int 1), (3, .int 1), (1, .int 0), (0, .ref h0)]) hx hb dX10_soonest_118 rfl hl (by decide) rfl (fun ls hl => ?_)
  refine lv_goto (tgt := 126) hx hb dX10_soonest_119 (by decide) ?_
  refine lv_goto (tgt := 98) hx hb dX10_soonest_126 (by decide) ?_
  refine lv_iload_n hx hb dX10_soonest_98 rfl (lv_at hl 2 rfl) ?_
  refine lv_iload_n hx hb dX10_soonest_99 rfl (lv_at hl 0 rfl) ?_
  refine lv_icmp_ge (tgt := 129) hx hb dX10_soonest_100 (by decide) (fun c_65 => absurd c_65 (by decide)) (fun c_65 => ?_)
  refine lv_iload_n hx hb dX10_soonest_103 rfl (lv_at hl 2 rfl) ?_
  refine lv_iload_n hx hb dX10_soonest_104 rfl (lv_at hl 0 rfl) ?_
  refine lv_iadd hx hb dX10_soonest_105 ?_
  refine lv_topi (fun z_66 ez_66 => ?_)
  obtain rfl : z_66 = (1 : Int32) := ez_66.trans (by decide)
  refine lv_iconst (v := 2) hx hb dX10_soonest_106 (by decide) ?_
  refine lv_idiv hx hb dX10_soonest_107 (by decide) ?_
  refine lv_topi (fun z_67 ez_67 => ?_)
  obtain rfl : z_67 = (0 : Int32) := ez_67.trans (by decide)
  refine lv_istore_n (lv' := [(3, .int 0), (2, .int 1), (1, .int 0), (0, .ref h0)]) hx hb dX10_soonest_108 rfl hl (by decide) rfl (fun ls hl => ?_)
  refine lv_aload_n hx hb dX10_soonest_109 rfl (lv_at hl 3 rfl) ?_
  refine lv_iload_n hx hb dX10_soonest_110 rfl (lv_at hl 0 rfl) ?_
  refine mc_Vi (rest := []) (wr := [(m_steps, .inl (y_steps, 400, .inl g_1))]) F hK hP hD hS hA (m_canBe0 l D h0 m_tape m_rule m_rules m_stair m_low m_high m_crack m_weight m_fire m_crowd m_state m_where m_words m_told m_breaks m_row m_tried m_steps m_paths s_tapeSize s_thrown 0 s_readStairs s_fault s_faultPlace s_wide s_tall s_hours s_fees s_looks s_end s_next s_kind s_which s_place s_read 0 ) ⟨gk_X10_217.1, gk_X10_217.2, Nat.le_of_ble_eq_true rfl, Nat.le_of_ble_eq_true rfl⟩ [1] [0] [] ⟨rfl, rfl, rfl, rfl, by decide⟩ rfl xT_move (fun _ _ _ => trivial) 1 rfl rfl rfl hl.1 rfl (Nat.le_of_ble_eq_true rfl) dX10_soonest_111 ⟨Nat.le_of_ble_eq_true rfl, Nat.le_of_ble_eq_true rfl⟩ (fun r_68 _ H locs hw hK1 hP hD hS => ?_)
  have hP : va_P D vwCl [(m_steps, .inl (y_steps, 400, .inl g_1)), (h0, .inr (9, [.ref m_tape, .int s_tapeSize, .int s_thrown, .ref m_rule, .ref m_rules, .int 0, .ref m_stair, .int s_readStairs, .int s_fault, .int s_faultPlace, .int s_wide, .int s_tall, .ref m_low, .ref m_high, .ref m_crack, .int 0, .ref m_weight, .ref m_fire, .ref m_crowd, .ref m_state, .ref m_where, .int s_hours, .int s_fees, .int s_looks, .ref m_words, .int s_end, .int s_next, .int s_kind, .int s_which, .int s_place, .int s_read, .ref m_told, .ref m_breaks, .ref m_row, .ref m_tried, .ref m_steps, .ref m_paths]))] H := hP
  have hD : va_D A [(m_steps, .inl (y_steps, 400, .inl g_1)), (h0, .inr (9, [.ref m_tape, .int s_tapeSize, .int s_thrown, .ref m_rule, .ref m_rules, .int 0, .ref m_stair, .int s_readStairs, .int s_fault, .int s_faultPlace, .int s_wide, .int s_tall, .ref m_low, .ref m_high, .ref m_crack, .int 0, .ref m_weight, .ref m_fire, .ref m_crowd, .ref m_state, .ref m_where, .int s_hours, .int s_fees, .int s_looks, .ref m_words, .int s_end, .int s_next, .int s_kind, .int s_which, .int s_place, .int s_read, .ref m_told, .ref m_breaks, .ref m_row, .ref m_tried, .ref m_steps, .ref m_paths]))] := hD
  have hw_69 : r_68 = 1 := hw
  obtain rfl : r_68 = 1 := hw_69
  refine lv_if_eq (tgt := 122) hx hb dX10_soonest_114 (by decide) (fun c_70 => absurd c_70 (by decide)) (fun c_70 => ?_)
  refine lv_iload_n hx hb dX10_soonest_117 rfl (lv_at hl 0 rfl) ?_
  refine lv_istore_n (lv' := [(2, .int 0), (3, .int 0), (1, .int 0), (0, .ref h0)]) hx hb dX10_soonest_118 rfl hl (by decide) rfl (fun ls hl => ?_)
  refine lv_goto (tgt := 126) hx hb dX10_soonest_119 (by decide) ?_
  refine lv_goto (tgt := 98) hx hb dX10_soonest_126 (by decide) ?_
  refine lv_iload_n hx hb dX10_soonest_98 rfl (lv_at hl 2 rfl) ?_
  refine lv_iload_n hx hb dX10_soonest_99 rfl (lv_at hl 0 rfl) ?_
  refine lv_icmp_ge (tgt := 129) hx hb dX10_soonest_100 (by decide) (fun c_71 => ?_) (fun c_71 => absurd c_71 (by decide))
  refine lv_iload_n hx hb dX10_soonest_129 rfl (lv_at hl 2 rfl) ?_
  have hP9 := hP.sub (ws' := [(h0, .inr (9, [.ref m_tape, .int s_tapeSize, .int s_thrown, .ref m_rule, .ref m_rules, .int 0, .ref m_stair, .int s_readStairs, .int s_fault, .int s_faultPlace, .int s_wide, .int s_tall, .ref m_low, .ref m_high, .ref m_crack, .int 0, .ref m_weight, .ref m_fire, .ref m_crowd, .ref m_state, .ref m_where, .int s_hours, .int s_fees, .int s_looks, .ref m_words, .int s_end, .int s_next, .int s_kind, .int s_which, .int s_place, .int s_read, .ref m_told, .ref m_breaks, .ref m_row, .ref m_tried, .ref m_steps, .ref m_paths])), (m_steps, .inl (y_steps, 400, .inl g_1))]) [1, 0] rfl
  have hD9 := hD.sub (ws' := [(h0, .inr (9, [.ref m_tape, .int s_tapeSize, .int s_thrown, .ref m_rule, .ref m_rules, .int 0, .ref m_stair, .int s_readStairs, .int s_fault, .int s_faultPlace, .int s_wide, .int s_tall, .ref m_low, .ref m_high, .ref m_crack, .int 0, .ref m_weight, .ref m_fire, .ref m_crowd, .ref m_state, .ref m_where, .int s_hours, .int s_fees, .int s_looks, .ref m_words, .int s_end, .int s_next, .int s_kind, .int s_which, .int s_place, .int s_read, .ref m_told, .ref m_breaks, .ref m_row, .ref m_tried, .ref m_steps, .ref m_paths])), (m_steps, .inl (y_steps, 400, .inl g_1))]) [1, 0] (by decide) rfl
  have hK9 := hK.sub (tys' := []) [] rfl
  refine W.widen (k := 0) (n := 0) (by decide) (by decide) ?_
  exact W.iret (v := 0) hx hb hr (fun t ht hW => ⟨⟨0, g_1, rfl, rfl, by rw [ht]; exact hP9, va_K.moved hW.alike hK9, hD9⟩, hS.F ht⟩) hS.2.2 dX10_soonest_130
theorem dX10_soon_0 : decode cX10_soon 0 = .ok (.aload_n 0, 1) := by decide +kernel
theorem dX10_soon_1 : decode cX10_soon 1 = .ok (.iconst 0, 1) := by decide +kernel
theorem dX10_soon_2 : decode cX10_soon 2 = .ok (.putfield 78, 3) := by decide +kernel
theorem dX10_soon_5 : decode cX10_soon 5 = .ok (.aload_n 0, 1) := by decide +kernel
theorem kw_5_200 : Cond.methodLink RX10 220 yX10_soonest ∈ gw := gw_t5 (List.mem_of_getElem? (i := 200) (by decide +kernel)) (by decide +kernel)
theorem kw_5_202 : Cond.instanceMethod yX10_soonest ∈ gw := gw_t5 (List.mem_of_getElem? (i := 202) (by decide +kernel)) (by decide +kernel)
theorem ks_4_4 : Cond.selects RX10 yX10_soonest yX10_soonest ∈ gw := gw_s (y := yX10_soonest) (n := 37) (List.mem_append_right _ (List.mem_append_right _ (List.mem_append_right _ (List.mem_of_getElem? (i := 4) (by decide +kernel)))))
theorem kw_5_203 : Cond.code yX10_soonest cX10_soonest 4 (some .int) ∈ gw := gw_t5 (List.mem_of_getElem? (i := 203) (by decide +kernel)) (by decide +kernel)
theorem gk_X10_220 : GoodIn gw (wsV RX10 220 RX10 yX10_soonest (.code yX10_soonest cX10_soonest 4 (some .int) :: gw)) ∧ (yX10_soonest.cls = RX10 ∧ yX10_soonest.cls ≠ "java/lang/invoke/MethodHandle" ∧ yX10_soonest.cls ≠ "java/lang/invoke/VarHandle" ∧ (parseMethodDescriptor yX10_soonest.desc).map (fun d => d.parameters.length) = some 0) := ⟨gi_V kw_5_200 kw_5_202 ks_4_4 kw_1_11 kw_5_203, by decide +kernel⟩
theorem dX10_soon_6 : decode cX10_soon 6 = .ok (.invokevirtual 220, 3) := by decide +kernel
theorem dX10_soon_9 : decode cX10_soon 9 = .ok (.ireturn, 1) := by decide +kernel
set_option maxHeartbeats 4000000 in
set_option maxRecDepth 100000 in
theorem m_soon (l : Launch) (D : va_G) (h0 : Nat) (m_tape : Nat) (m_rule : Nat) (m_rules : Nat) (m_stair : Nat) (m_low : Nat) (m_high : Nat) (m_crack : Nat) (m_weight : Nat) (m_fire : Nat) (m_crowd : Nat) (m_state : Nat) (m_where : Nat) (m_words : Nat) (m_told : Nat) (m_breaks : Nat) (m_row : Nat) (m_tried : Nat) (m_steps : Nat) (m_paths : Nat) (y_steps : ClassId) (f_steps : Nat → Int32) : cI l yX10_soon (.code yX10_soon cX10_soon 1 (some .int)) ({ frames := 5, cells := 0, slots := 0, locals := 119 }) D [(y_steps, .int)] [(h0, .inr (9, [.ref m_tape, .int 0, .int 0, .ref m_rule, .ref m_rules, .int 0, .ref m_stair, .int 0, .int 0, .int ((-1)), .int 5, .int 5, .ref m_low, .ref m_high, .ref m_crack, .int 0, .ref m_weight, .ref m_fire, .ref m_crowd, .ref m_state, .ref m_where, .int 0, .int 0, .int 0, .ref m_words, .int 0, .int 0, .int 0, .int 0, .int 0, .int 0, .ref m_told, .ref m_breaks, .ref m_row, .ref m_tried, .ref m_steps, .ref m_paths])), (m_steps, .inl (y_steps, 400, .inl f_steps))] xT [.ref h0] (S := Unit) (fun r _ => r = 0) (fun _ => []) (fun _ => []) := by
  intro sz
  refine Met.ofW (cc := cX10_soon) (maxL := 1) (ret := (some .int)) (by decide) rfl ?_
  intro p e s m args below meth c s₁ B hml hv
  obtain ⟨rfl, hsz, hP, hK, hD0, hX⟩ := hv
  have hx := B.exec
  have hb := B.bytes
  have hr := B.returns
  have hts0 := atoms_spec (ws := .code yX10_soon cX10_soon 1 (some .int) :: gw) B.pre
  have hts := fun (w : Cond) (h : w ∈ gw) => hts0 w (List.mem_cons_of_mem _ h)
  have hown : s.vm.findClass RX10 = some m.cls := findClass_of_methodNamed B.named
  have hlocks := B.notSynchronized
  have F : mFix p s m _ c cX10_soon 1 RX10 := ⟨hx, hb, hml, hown, hts⟩
  subst hsz
  have hD := hD0.self (sz := s.heap.size)
  generalize hAe : va_A [(h0, .inr (9, [.ref m_tape, .int 0, .int 0, .ref m_rule, .ref m_rules, .int 0, .ref m_stair, .int 0, .int 0, .int ((-1)), .int 5, .int 5, .ref m_low, .ref m_high, .ref m_crack, .int 0, .ref m_weight, .ref m_fire, .ref m_crowd, .ref m_state, .ref m_where, .int 0, .int 0, .int 0, .ref m_words, .int 0, .int 0, .int 0, .int 0, .int 0, .int 0, .ref m_told, .ref m_breaks, .ref m_row, .ref m_tried, .ref m_steps, .ref m_paths])), (m_steps, .inl (y_steps, 400, .inl f_steps))] s.heap.size = A at hD hX ⊢
  have hA : ∀ q : Nat, s.heap.size ≤ q → A q := fun q h => by rw [← hAe]; exact Or.inr h
  have hS : va_S A s.heap s.heap [] := va_S.rf
  have hl := lv_entry ([.ref h0]) (n := 1) (Nat.le_of_ble_eq_true rfl)
  rw [lg_entry_eq]
  generalize (lg_sl ([.ref h0]) ++ List.replicate (1 - (lg_sl ([.ref h0])).length) Slot.unset).toArray = ls at hl ⊢
  have hl : lv_has ls 1 [(0, .ref h0)] := hl
  have hP : va_P D vwCl [(h0, .inr (9, [.ref m_tape, .int 0, .int 0, .ref m_rule, .ref m_rules, .int 0, .ref m_stair, .int 0, .int 0, .int ((-1)), .int 5, .int 5, .ref m_low, .ref m_high, .ref m_crack, .int 0, .ref m_weight, .ref m_fire, .ref m_crowd, .ref m_state, .ref m_where, .int 0, .int 0, .int 0, .ref m_words, .int 0, .int 0, .int 0, .int 0, .int 0, .int 0, .ref m_told, .ref m_breaks, .ref m_row, .ref m_tried, .ref m_steps, .ref m_paths])), (m_steps, .inl (y_steps, 400, .inl f_steps))] s.heap := hP
  refine lv_aload_n hx hb dX10_soon_0 rfl (lv_at hl 0 rfl) ?_
  refine lv_iconst (v := 0) hx hb dX10_soon_1 (by decide) ?_
  refine va_put (D := D) (ci := 9) (v := .int 0) (ty := .int) (C := RX10) (T := TX10) (N := 37) hx hb hts inG_X10 tyX10 tyX10_ok nmX10 hown hK hP hD hS 0 rfl rfl 2 (by decide) (hts _ kw_4_197) (fun _ h9 => h9) rfl (by decide +kernel) rfl rfl (Nat.le_of_ble_eq_true rfl) dX10_soon_2 (fun H locs hP hD hS => ?_)
  have hP : va_P D vwCl [(h0, .inr (9, [.ref m_tape, .int 0, .int 0, .ref m_rule, .ref m_rules, .int 0, .ref m_stair, .int 0, .int 0, .int ((-1)), .int 5, .int 5, .ref m_low, .ref m_high, .ref m_crack, .int 0, .ref m_weight, .ref m_fire, .ref m_crowd, .ref m_state, .ref m_where, .int 0, .int 0, .int 0, .ref m_words, .int 0, .int 0, .int 0, .int 0, .int 0, .int 0, .ref m_told, .ref m_breaks, .ref m_row, .ref m_tried, .ref m_steps, .ref m_paths])), (m_steps, .inl (y_steps, 400, .inl f_steps))] H := hP
  have hD : va_D A [(h0, .inr (9, [.ref m_tape, .int 0, .int 0, .ref m_rule, .ref m_rules, .int 0, .ref m_stair, .int 0, .int 0, .int ((-1)), .int 5, .int 5, .ref m_low, .ref m_high, .ref m_crack, .int 0, .ref m_weight, .ref m_fire, .ref m_crowd, .ref m_state, .ref m_where, .int 0, .int 0, .int 0, .ref m_words, .int 0, .int 0, .int 0, .int 0, .int 0, .int 0, .ref m_told, .ref m_breaks, .ref m_row, .ref m_tried, .ref m_steps, .ref m_paths])), (m_steps, .inl (y_steps, 400, .inl f_steps))] := hD
  refine lv_aload_n hx hb dX10_soon_5 rfl (lv_at hl 0 rfl) ?_
  refine mc_Vi (rest := []) (wr := []) F hK hP hD hS hA (m_soonest0 l D h0 m_tape m_rule m_rules m_stair m_low m_high m_crack m_weight m_fire m_crowd m_state m_where m_words m_told m_breaks m_row m_tried m_steps m_paths y_steps f_steps 0 0 0 0 ((-1)) 5 5 0 0 0 0 0 0 0 0 0 ) ⟨gk_X10_220.1, gk_X10_220.2, Nat.le_of_ble_eq_true rfl, Nat.le_of_ble_eq_true rfl⟩ [0, 1] [] [0] ⟨rfl, rfl, rfl, rfl, by decide⟩ rfl xT_move (fun _ _ _ => trivial) 0 rfl rfl rfl hl.1 rfl (Nat.le_of_ble_eq_true rfl) dX10_soon_6 ⟨Nat.le_of_ble_eq_true rfl, Nat.le_of_ble_eq_true rfl⟩ (fun r_2 g_1 H locs hw hK1 hP hD hS => ?_)
  have hP : va_P D vwCl [(h0, .inr (9, [.ref m_tape, .int 0, .int 0, .ref m_rule, .ref m_rules, .int 0, .ref m_stair, .int 0, .int 0, .int (((-1))), .int 5, .int 5, .ref m_low, .ref m_high, .ref m_crack, .int 0, .ref m_weight, .ref m_fire, .ref m_crowd, .ref m_state, .ref m_where, .int 0, .int 0, .int 0, .ref m_words, .int 0, .int 0, .int 0, .int 0, .int 0, .int 0, .ref m_told, .ref m_breaks, .ref m_row, .ref m_tried, .ref m_steps, .ref m_paths])), (m_steps, .inl (y_steps, 400, .inl g_1))] H := hP
  have hD : va_D A [(h0, .inr (9, [.ref m_tape, .int 0, .int 0, .ref m_rule, .ref m_rules, .int 0, .ref m_stair, .int 0, .int 0, .int (((-1))), .int 5, .int 5, .ref m_low, .ref m_high, .ref m_crack, .int 0, .ref m_weight, .ref m_fire, .ref m_crowd, .ref m_state, .ref m_where, .int 0, .int 0, .int 0, .ref m_words, .int 0, .int 0, .int 0, .int 0, .int 0, .int 0, .ref m_told, .ref m_breaks, .ref m_row, .ref m_tried, .ref m_steps, .ref m_paths])), (m_steps, .inl (y_steps, 400, .inl g_1))] := hD
  have hw_3 : r_2 = 0 := hw
  obtain rfl : r_2 = 0 := hw_3
  have hP9 := hP.sub (ws' := []) [] rfl
  have hD9 := hD.sub (ws' := []) [] (by decide) rfl
  have hK9 := hK.sub (tys' := []) [] rfl
  refine W.widen (k := 0) (n := 0) (by decide) (by decide) ?_
  exact W.iret (v := 0) hx hb hr (fun t ht hW => ⟨⟨0, (), rfl, rfl, by rw [ht]; exact hP9, va_K.moved hW.alike hK9, hD9⟩, hS.F ht⟩) hS.2.2 dX10_soon_9
theorem dX10_proof_0 : decode cX10_proof 0 = .ok (.aload_n 0, 1) := by decide +kernel
theorem dX10_proof_1 : decode cX10_proof 1 = .ok (.iconst 0, 1) := by decide +kernel
theorem dX10_proof_2 : decode cX10_proof 2 = .ok (.putfield 78, 3) := by decide +kernel
theorem dX10_proof_5 : decode cX10_proof 5 = .ok (.aload_n 0, 1) := by decide +kernel
theorem dX10_proof_6 : decode cX10_proof 6 = .ok (.invokevirtual 220, 3) := by decide +kernel
theorem dX10_proof_9 : decode cX10_proof 9 = .ok (.istore_n 1, 1) := by decide +kernel
theorem dX10_proof_10 : decode cX10_proof 10 = .ok (.iload_n 1, 1) := by decide +kernel
theorem dX10_proof_11 : decode cX10_proof 11 = .ok (.iconst 1, 1) := by decide +kernel
theorem dX10_proof_12 : decode cX10_proof 12 = .ok (.if_icmp .ge 5, 3) := by decide +kernel
theorem dX10_proof_15 : decode cX10_proof 15 = .ok (.iconst (-1), 1) := by decide +kernel
theorem dX10_proof_16 : decode cX10_proof 16 = .ok (.ireturn, 1) := by decide +kernel
set_option maxHeartbeats 4000000 in
set_option maxRecDepth 100000 in
theorem m_proof (l : Launch) (D : va_G) (h0 : Nat) (m_tape : Nat) (m_rule : Nat) (m_rules : Nat) (m_stair : Nat) (m_low : Nat) (m_high : Nat) (m_crack : Nat) (m_weight : Nat) (m_fire : Nat) (m_crowd : Nat) (m_state : Nat) (m_where : Nat) (m_words : Nat) (m_told : Nat) (m_breaks : Nat) (m_row : Nat) (m_tried : Nat) (m_steps : Nat) (m_paths : Nat) (y_steps : ClassId) (f_steps : Nat → Int32) : cI l yX10_proof (.code yX10_proof cX10_proof 3 (some .int)) ({ frames := 5, cells := 0, slots := 0, locals := 119 }) D [(y_steps, .int)] [(h0, .inr (9, [.ref m_tape, .int 0, .int 0, .ref m_rule, .ref m_rules, .int 0, .ref m_stair, .int 0, .int 0, .int ((-1)), .int 5, .int 5, .ref m_low, .ref m_high, .ref m_crack, .int 0, .ref m_weight, .ref m_fire, .ref m_crowd, .ref m_state, .ref m_where, .int 0, .int 0, .int 0, .ref m_words, .int 0, .int 0, .int 0, .int 0, .int 0, .int 0, .ref m_told, .ref m_breaks, .ref m_row, .ref m_tried, .ref m_steps, .ref m_paths])), (m_steps, .inl (y_steps, 400, .inl f_steps))] xT [.ref h0] (S := Unit) (fun r _ => r = (-1)) (fun _ => []) (fun _ => []) := by
  intro sz
  refine Met.ofW (cc := cX10_proof) (maxL := 3) (ret := (some .int)) (by decide) rfl ?_
  intro p e s m args below meth c s₁ B hml hv
  obtain ⟨rfl, hsz, hP, hK, hD0, hX⟩ := hv
  have hx := B.exec
  have hb := B.bytes
  have hr := B.returns
  have hts0 := atoms_spec (ws := .code yX10_proof cX10_proof 3 (some .int) :: gw) B.pre
  have hts := fun (w : Cond) (h : w ∈ gw) => hts0 w (List.mem_cons_of_mem _ h)
  have hown : s.vm.findClass RX10 = some m.cls := findClass_of_methodNamed B.named
  have hlocks := B.notSynchronized
  have F : mFix p s m _ c cX10_proof 3 RX10 := ⟨hx, hb, hml, hown, hts⟩
  subst hsz
  have hD := hD0.self (sz := s.heap.size)
  generalize hAe : va_A [(h0, .inr (9, [.ref m_tape, .int 0, .int 0, .ref m_rule, .ref m_rules, .int 0, .ref m_stair, .int 0, .int 0, .int ((-1)), .int 5, .int 5, .ref m_low, .ref m_high, .ref m_crack, .int 0, .ref m_weight, .ref m_fire, .ref m_crowd, .ref m_state, .ref m_where, .int 0, .int 0, .int 0, .ref m_words, .int 0, .int 0, .int 0, .int 0, .int 0, .int 0, .ref m_told, .ref m_breaks, .ref m_row, .ref m_tried, .ref m_steps, .ref m_paths])), (m_steps, .inl (y_steps, 400, .inl f_steps))] s.heap.size = A at hD hX ⊢
  have hA : ∀ q : Nat, s.heap.size ≤ q → A q := fun q h => by rw [← hAe]; exact Or.inr h
  have hS : va_S A s.heap s.heap [] := va_S.rf
  have hl := lv_entry ([.ref h0]) (n := 3) (Nat.le_of_ble_eq_true rfl)
  rw [lg_entry_eq]
  generalize (lg_sl ([.ref h0]) ++ List.replicate (3 - (lg_sl ([.ref h0])).length) Slot.unset).toArray = ls at hl ⊢
  have hl : lv_has ls 3 [(0, .ref h0)] := hl
  have hP : va_P D vwCl [(h0, .inr (9, [.ref m_tape, .int 0, .int 0, .ref m_rule, .ref m_rules, .int 0, .ref m_stair, .int 0, .int 0, .int ((-1)), .int 5, .int 5, .ref m_low, .ref m_high, .ref m_crack, .int 0, .ref m_weight, .ref m_fire, .ref m_crowd, .ref m_state, .ref m_where, .int 0, .int 0, .int 0, .ref m_words, .int 0, .int 0, .int 0, .int 0, .int 0, .int 0, .ref m_told, .ref m_breaks, .ref m_row, .ref m_tried, .ref m_steps, .ref m_paths])), (m_steps, .inl (y_steps, 400, .inl f_steps))] s.heap := hP
  refine lv_aload_n hx hb dX10_proof_0 rfl (lv_at hl 0 rfl) ?_
  refine lv_iconst (v := 0) hx hb dX10_proof_1 (by decide) ?_
  refine va_put (D := D) (ci := 9) (v := .int 0) (ty := .int) (C := RX10) (T := TX10) (N := 37) hx hb hts inG_X10 tyX10 tyX10_ok nmX10 hown hK hP hD hS 0 rfl rfl 2 (by decide) (hts _ kw_4_197) (fun _ h9 => h9) rfl (by decide +kernel) rfl rfl (Nat.le_of_ble_eq_true rfl) dX10_proof_2 (fun H locs hP hD hS => ?_)
  have hP : va_P D vwCl [(h0, .inr (9, [.ref m_tape, .int 0, .int 0, .ref m_rule, .ref m_rules, .int 0, .ref m_stair, .int 0, .int 0, .int ((-1)), .int 5, .int 5, .ref m_low, .ref m_high, .ref m_crack, .int 0, .ref m_weight, .ref m_fire, .ref m_crowd, .ref m_state, .ref m_where, .int 0, .int 0, .int 0, .ref m_words, .int 0, .int 0, .int 0, .int 0, .int 0, .int 0, .ref m_told, .ref m_breaks, .ref m_row, .ref m_tried, .ref m_steps, .ref m_paths])), (m_steps, .inl (y_steps, 400, .inl f_steps))] H := hP
  have hD : va_D A [(h0, .inr (9, [.ref m_tape, .int 0, .int 0, .ref m_rule, .ref m_rules, .int 0, .ref m_stair, .int 0, .int 0, .int ((-1)), .int 5, .int 5, .ref m_low, .ref m_high, .ref m_crack, .int 0, .ref m_weight, .ref m_fire, .ref m_crowd, .ref m_state, .ref m_where, .int 0, .int 0, .int 0, .ref m_words, .int 0, .int 0, .int 0, .int 0, .int 0, .int 0, .ref m_told, .ref m_breaks, .ref m_row, .ref m_tried, .ref m_steps, .ref m_paths])), (m_steps, .inl (y_steps, 400, .inl f_steps))] := hD
  refine lv_aload_n hx hb dX10_proof_5 rfl (lv_at hl 0 rfl) ?_
  refine mc_Vi (rest := []) (wr := []) F hK hP hD hS hA (m_soonest0 l D h0 m_tape m_rule m_rules m_stair m_low m_high m_crack m_weight m_fire m_crowd m_state m_where m_words m_told m_breaks m_row m_tried m_steps m_paths y_steps f_steps 0 0 0 0 ((-1)) 5 5 0 0 0 0 0 0 0 0 0 ) ⟨gk_X10_220.1, gk_X10_220.2, Nat.le_of_ble_eq_true rfl, Nat.le_of_ble_eq_true rfl⟩ [0, 1] [] [0] ⟨rfl, rfl, rfl, rfl, by decide⟩ rfl xT_move (fun _ _ _ => trivial) 0 rfl rfl rfl hl.1 rfl (Nat.le_of_ble_eq_true rfl) dX10_proof_6 ⟨Nat.le_of_ble_eq_true rfl, Nat.le_of_ble_eq_true rfl⟩ (fun r_2 g_1 H locs hw hK1 hP hD hS => ?_)
  have hP : va_P D vwCl [(h0, .inr (9, [.ref m_tape, .int 0, .int 0, .ref m_rule, .ref m_rules, .int 0, .ref m_stair, .int 0, .int 0, .int (((-1))), .int 5, .int 5, .ref m_low, .ref m_high, .ref m_crack, .int 0, .ref m_weight, .ref m_fire, .ref m_crowd, .ref m_state, .ref m_where, .int 0, .int 0, .int 0, .ref m_words, .int 0, .int 0, .int 0, .int 0, .int 0, .int 0, .ref m_told, .ref m_breaks, .ref m_row, .ref m_tried, .ref m_steps, .ref m_paths])), (m_steps, .inl (y_steps, 400, .inl g_1))] H := hP
  have hD : va_D A [(h0, .inr (9, [.ref m_tape, .int 0, .int 0, .ref m_rule, .ref m_rules, .int 0, .ref m_stair, .int 0, .int 0, .int (((-1))), .int 5, .int 5, .ref m_low, .ref m_high, .ref m_crack, .int 0, .ref m_weight, .ref m_fire, .ref m_crowd, .ref m_state, .ref m_where, .int 0, .int 0, .int 0, .ref m_words, .int 0, .int 0, .int 0, .int 0, .int 0, .int 0, .ref m_told, .ref m_breaks, .ref m_row, .ref m_tried, .ref m_steps, .ref m_paths])), (m_steps, .inl (y_steps, 400, .inl g_1))] := hD
  have hw_3 : r_2 = 0 := hw
  obtain rfl : r_2 = 0 := hw_3
  refine lv_istore_n (lv' := [(1, .int 0), (0, .ref h0)]) hx hb dX10_proof_9 rfl hl (by decide) rfl (fun ls hl => ?_)
  refine lv_iload_n hx hb dX10_proof_10 rfl (lv_at hl 0 rfl) ?_
  refine lv_iconst (v := 1) hx hb dX10_proof_11 (by decide) ?_
  refine lv_icmp_ge (tgt := 17) hx hb dX10_proof_12 (by decide) (fun c_4 => absurd c_4 (by decide)) (fun c_4 => ?_)
  refine lv_iconst (v := -1) hx hb dX10_proof_15 (by decide) ?_
  have hP9 := hP.sub (ws' := []) [] rfl
  have hD9 := hD.sub (ws' := []) [] (by decide) rfl
  have hK9 := hK.sub (tys' := []) [] rfl
  refine W.widen (k := 0) (n := 0) (by decide) (by decide) ?_
  exact W.iret (v := (-1)) hx hb hr (fun t ht hW => ⟨⟨((-1)), (), rfl, rfl, by rw [ht]; exact hP9, va_K.moved hW.alike hK9, hD9⟩, hS.F ht⟩) hS.2.2 dX10_proof_16
theorem dX10_look_0 : decode cX10_look 0 = .ok (.aload_n 0, 1) := by decide +kernel
theorem dX10_look_1 : decode cX10_look 1 = .ok (.iconst 0, 1) := by decide +kernel
theorem dX10_look_2 : decode cX10_look 2 = .ok (.putfield 78, 3) := by decide +kernel
theorem dX10_look_5 : decode cX10_look 5 = .ok (.iload_n 1, 1) := by decide +kernel
theorem dX10_look_6 : decode cX10_look 6 = .ok (.ifCond .lt 11, 3) := by decide +kernel
theorem dX10_look_17 : decode cX10_look 17 = .ok (.aload_n 0, 1) := by decide +kernel
theorem dX10_look_18 : decode cX10_look 18 = .ok (.iconst 1, 1) := by decide +kernel
theorem kw_6_4 : Cond.methodLink RX10 224 yX10_fails ∈ gw := gw_t6 (List.mem_of_getElem? (i := 4) (by decide +kernel)) (by decide +kernel)
theorem kw_6_6 : Cond.instanceMethod yX10_fails ∈ gw := gw_t6 (List.mem_of_getElem? (i := 6) (by decide +kernel)) (by decide +kernel)
theorem ks_4_13 : Cond.selects RX10 yX10_fails yX10_fails ∈ gw := gw_s (y := yX10_fails) (n := 37) (List.mem_append_right _ (List.mem_append_right _ (List.mem_append_right _ (List.mem_of_getElem? (i := 13) (by decide +kernel)))))
theorem kw_6_7 : Cond.code yX10_fails cX10_fails 2 (some .int) ∈ gw := gw_t6 (List.mem_of_getElem? (i := 7) (by decide +kernel)) (by decide +kernel)
theorem gk_X10_224 : GoodIn gw (wsV RX10 224 RX10 yX10_fails (.code yX10_fails cX10_fails 2 (some .int) :: gw)) ∧ (yX10_fails.cls = RX10 ∧ yX10_fails.cls ≠ "java/lang/invoke/MethodHandle" ∧ yX10_fails.cls ≠ "java/lang/invoke/VarHandle" ∧ (parseMethodDescriptor yX10_fails.desc).map (fun d => d.parameters.length) = some 1) := ⟨gi_V kw_6_4 kw_6_6 ks_4_13 kw_1_11 kw_6_7, by decide +kernel⟩
theorem dX10_look_19 : decode cX10_look 19 = .ok (.invokevirtual 224, 3) := by decide +kernel
theorem dX10_look_22 : decode cX10_look 22 = .ok (.ireturn, 1) := by decide +kernel
theorem dX10_look_9 : decode cX10_look 9 = .ok (.iload_n 1, 1) := by decide +kernel
theorem dX10_look_10 : decode cX10_look 10 = .ok (.aload_n 0, 1) := by decide +kernel
theorem dX10_look_11 : decode cX10_look 11 = .ok (.getfield 146, 3) := by decide +kernel
theorem dX10_look_14 : decode cX10_look 14 = .ok (.if_icmp .lt 9, 3) := by decide +kernel
set_option maxHeartbeats 4000000 in
set_option maxRecDepth 100000 in
theorem m_look (l : Launch) (D : va_G) (h0 : Nat) (m_tape : Nat) (m_rule : Nat) (m_rules : Nat) (m_stair : Nat) (m_low : Nat) (m_high : Nat) (m_crack : Nat) (m_weight : Nat) (m_fire : Nat) (m_crowd : Nat) (m_state : Nat) (m_where : Nat) (m_words : Nat) (m_told : Nat) (m_breaks : Nat) (m_row : Nat) (m_tried : Nat) (m_steps : Nat) (m_paths : Nat) (x1 : Int32) (x2 : Int32) : cI l yX10_look (.code yX10_look cX10_look 3 (some .int)) ({ frames := 5, cells := 0, slots := 0, locals := 119 }) D [] [(h0, .inr (9, [.ref m_tape, .int 0, .int 0, .ref m_rule, .ref m_rules, .int 0, .ref m_stair, .int 0, .int 0, .int ((-1)), .int 5, .int 5, .ref m_low, .ref m_high, .ref m_crack, .int 0, .ref m_weight, .ref m_fire, .ref m_crowd, .ref m_state, .ref m_where, .int 0, .int 0, .int 0, .ref m_words, .int 0, .int 0, .int 0, .int 0, .int 0, .int 0, .ref m_told, .ref m_breaks, .ref m_row, .ref m_tried, .ref m_steps, .ref m_paths]))] xT [.ref h0, .int x1, .int x2] (S := Unit) (fun r _ => r = 0) (fun _ => []) (fun _ => [(h0, .inr (9, [.ref m_tape, .int 0, .int 1, .ref m_rule, .ref m_rules, .int 0, .ref m_stair, .int 0, .int 0, .int ((-1)), .int 5, .int 5, .ref m_low, .ref m_high, .ref m_crack, .int 0, .ref m_weight, .ref m_fire, .ref m_crowd, .ref m_state, .ref m_where, .int 0, .int 0, .int 0, .ref m_words, .int 0, .int 0, .int 0, .int 0, .int 0, .int 0, .ref m_told, .ref m_breaks, .ref m_row, .ref m_tried, .ref m_steps, .ref m_paths]))]) := by
  intro sz
  refine Met.ofW (cc := cX10_look) (maxL := 3) (ret := (some .int)) (by decide) rfl ?_
  intro p e s m args below meth c s₁ B hml hv
  obtain ⟨rfl, hsz, hP, hK, hD0, hX⟩ := hv
  have hx := B.exec
  have hb := B.bytes
  have hr := B.returns
  have hts0 := atoms_spec (ws := .code yX10_look cX10_look 3 (some .int) :: gw) B.pre
  have hts := fun (w : Cond) (h : w ∈ gw) => hts0 w (List.mem_cons_of_mem _ h)
  have hown : s.vm.findClass RX10 = some m.cls := findClass_of_methodNamed B.named
  have hlocks := B.notSynchronized
  have F : mFix p s m _ c cX10_look 3 RX10 := ⟨hx, hb, hml, hown, hts⟩
  subst hsz
  have hD := hD0.self (sz := s.heap.size)
  generalize hAe : va_A [(h0, .inr (9, [.ref m_tape, .int 0, .int 0, .ref m_rule, .ref m_rules, .int 0, .ref m_stair, .int 0, .int 0, .int ((-1)), .int 5, .int 5, .ref m_low, .ref m_high, .ref m_crack, .int 0, .ref m_weight, .ref m_fire, .ref m_crowd, .ref m_state, .ref m_where, .int 0, .int 0, .int 0, .ref m_words, .int 0, .int 0, .int 0, .int 0, .int 0, .int 0, .ref m_told, .ref m_breaks, .ref m_row, .ref m_tried, .ref m_steps, .ref m_paths]))] s.heap.size = A at hD hX ⊢
  have hA : ∀ q : Nat, s.heap.size ≤ q → A q := fun q h => by rw [← hAe]; exact Or.inr h
  have hS : va_S A s.heap s.heap [] := va_S.rf
  have hl := lv_entry ([.ref h0, .int x1, .int x2]) (n := 3) (Nat.le_of_ble_eq_true rfl)
  rw [lg_entry_eq]
  generalize (lg_sl ([.ref h0, .int x1, .int x2]) ++ List.replicate (3 - (lg_sl ([.ref h0, .int x1, .int x2])).length) Slot.unset).toArray = ls at hl ⊢
  have hl : lv_has ls 3 [(0, .ref h0), (1, .int x1), (2, .int x2)] := hl
  have hP : va_P D vwCl [(h0, .inr (9, [.ref m_tape, .int 0, .int 0, .ref m_rule, .ref m_rules, .int 0, .ref m_stair, .int 0, .int 0, .int ((-1)), .int 5, .int 5, .ref m_low, .ref m_high, .ref m_crack, .int 0, .ref m_weight, .ref m_fire, .ref m_crowd, .ref m_state, .ref m_where, .int 0, .int 0, .int 0, .ref m_words, .int 0, .int 0, .int 0, .int 0, .int 0, .int 0, .ref m_told, .ref m_breaks, .ref m_row, .ref m_tried, .ref m_steps, .ref m_paths]))] s.heap := hP
  refine lv_aload_n hx hb dX10_look_0 rfl (lv_at hl 0 rfl) ?_
  refine lv_iconst (v := 0) hx hb dX10_look_1 (by decide) ?_
  refine va_put (D := D) (ci := 9) (v := .int 0) (ty := .int) (C := RX10) (T := TX10) (N := 37) hx hb hts inG_X10 tyX10 tyX10_ok nmX10 hown hK hP hD hS 0 rfl rfl 2 (by decide) (hts _ kw_4_197) (fun _ h9 => h9) rfl (by decide +kernel) rfl rfl (Nat.le_of_ble_eq_true rfl) dX10_look_2 (fun H locs hP hD hS => ?_)
  have hP : va_P D vwCl [(h0, .inr (9, [.ref m_tape, .int 0, .int 0, .ref m_rule, .ref m_rules, .int 0, .ref m_stair, .int 0, .int 0, .int ((-1)), .int 5, .int 5, .ref m_low, .ref m_high, .ref m_crack, .int 0, .ref m_weight, .ref m_fire, .ref m_crowd, .ref m_state, .ref m_where, .int 0, .int 0, .int 0, .ref m_words, .int 0, .int 0, .int 0, .int 0, .int 0, .int 0, .ref m_told, .ref m_breaks, .ref m_row, .ref m_tried, .ref m_steps, .ref m_paths]))] H := hP
  have hD : va_D A [(h0, .inr (9, [.ref m_tape, .int 0, .int 0, .ref m_rule, .ref m_rules, .int 0, .ref m_stair, .int 0, .int 0, .int ((-1)), .int 5, .int 5, .ref m_low, .ref m_high, .ref m_crack, .int 0, .ref m_weight, .ref m_fire, .ref m_crowd, .ref m_state, .ref m_where, .int 0, .int 0, .int 0, .ref m_words, .int 0, .int 0, .int 0, .int 0, .int 0, .int 0, .ref m_told, .ref m_breaks, .ref m_row, .ref m_tried, .ref m_steps, .ref m_paths]))] := hD
  refine lv_iload_n hx hb dX10_look_5 rfl (lv_at hl 1 rfl) ?_
  refine lv_if_lt (tgt := 17) hx hb dX10_look_6 (by decide) (fun c_1 => ?_) (fun c_1 => ?_)
  · skip
    refine lv_aload_n hx hb dX10_look_17 rfl (lv_at hl 0 rfl) ?_
    refine lv_iconst (v := 1) hx hb dX10_look_18 (by decide) ?_
    refine mc_Vi (rest := []) (wr := []) F hK hP hD hS hA (m_fails l D h0 m_tape m_rule m_rules m_stair m_low m_high m_crack m_weight m_fire m_crowd m_state m_where m_words m_told m_breaks m_row m_tried m_steps m_paths 0 0 0 0 0 ((-1)) 5 5 0 0 0 0 0 0 0 0 0 0 1 ) ⟨gk_X10_224.1, gk_X10_224.2, Nat.le_of_ble_eq_true rfl, Nat.le_of_ble_eq_true rfl⟩ [0] [] [] ⟨rfl, rfl, rfl, rfl, by decide⟩ rfl xT_move (fun _ _ _ => trivial) 0 rfl rfl rfl hl.1 rfl (Nat.le_of_ble_eq_true rfl) dX10_look_19 ⟨Nat.le_of_ble_eq_true rfl, Nat.le_of_ble_eq_true rfl⟩ (fun r_2 _ H locs hw hK1 hP hD hS => ?_)
    have hP : va_P D vwCl [(h0, .inr (9, [.ref m_tape, .int 0, .int 1, .ref m_rule, .ref m_rules, .int 0, .ref m_stair, .int 0, .int 0, .int (((-1))), .int 5, .int 5, .ref m_low, .ref m_high, .ref m_crack, .int 0, .ref m_weight, .ref m_fire, .ref m_crowd, .ref m_state, .ref m_where, .int 0, .int 0, .int 0, .ref m_words, .int 0, .int 0, .int 0, .int 0, .int 0, .int 0, .ref m_told, .ref m_breaks, .ref m_row, .ref m_tried, .ref m_steps, .ref m_paths]))] H := hP
    have hD : va_D A [(h0, .inr (9, [.ref m_tape, .int 0, .int 1, .ref m_rule, .ref m_rules, .int 0, .ref m_stair, .int 0, .int 0, .int (((-1))), .int 5, .int 5, .ref m_low, .ref m_high, .ref m_crack, .int 0, .ref m_weight, .ref m_fire, .ref m_crowd, .ref m_state, .ref m_where, .int 0, .int 0, .int 0, .ref m_words, .int 0, .int 0, .int 0, .int 0, .int 0, .int 0, .ref m_told, .ref m_breaks, .ref m_row, .ref m_tried, .ref m_steps, .ref m_paths]))] := hD
    have hw_3 : r_2 = 0 := hw
    obtain rfl : r_2 = 0 := hw_3
    have hP9 := hP.sub (ws' := [(h0, .inr (9, [.ref m_tape, .int 0, .int 1, .ref m_rule, .ref m_rules, .int 0, .ref m_stair, .int 0, .int 0, .int ((-1)), .int 5, .int 5, .ref m_low, .ref m_high, .ref m_crack, .int 0, .ref m_weight, .ref m_fire, .ref m_crowd, .ref m_state, .ref m_where, .int 0, .int 0, .int 0, .ref m_words, .int 0, .int 0, .int 0, .int 0, .int 0, .int 0, .ref m_told, .ref m_breaks, .ref m_row, .ref m_tried, .ref m_steps, .ref m_paths]))]) [0] rfl
    have hD9 := hD.sub (ws' := [(h0, .inr (9, [.ref m_tape, .int 0, .int 1, .ref m_rule, .ref m_rules, .int 0, .ref m_stair, .int 0, .int 0, .int ((-1)), .int 5, .int 5, .ref m_low, .ref m_high, .ref m_crack, .int 0, .ref m_weight, .ref m_fire, .ref m_crowd, .ref m_state, .ref m_where, .int 0, .int 0, .int 0, .ref m_words, .int 0, .int 0, .int 0, .int 0, .int 0, .int 0, .ref m_told, .ref m_breaks, .ref m_row, .ref m_tried, .ref m_steps, .ref m_paths]))]) [0] (by decide) rfl
    have hK9 := hK.sub (tys' := []) [] rfl
    refine W.widen (k := 0) (n := 0) (by decide) (by decide) ?_
    exact W.iret (v := 0) hx hb hr (fun t ht hW => ⟨⟨0, (), rfl, rfl, by rw [ht]; exact hP9, va_K.moved hW.alike hK9, hD9⟩, hS.F ht⟩) hS.2.2 dX10_look_22
  · skip
    refine lv_iload_n hx hb dX10_look_9 rfl (lv_at hl 1 rfl) ?_
    refine lv_aload_n hx hb dX10_look_10 rfl (lv_at hl 0 rfl) ?_
    refine va_get (D := D) (ci := 9) (v := .int 0) (C := RX10) (T := TX10) (N := 37) hx hb hts inG_X10 hown hK hP 0 rfl rfl 15 (by decide) (hts _ kw_4_210) (fun _ h9 => h9) rfl dX10_look_11 ?_
    refine lv_icmp_lt (tgt := 23) hx hb dX10_look_14 (by decide) (fun c_4 => absurd c_4 c_1) (fun c_4 => ?_)
    refine lv_aload_n hx hb dX10_look_17 rfl (lv_at hl 0 rfl) ?_
    refine lv_iconst (v := 1) hx hb dX10_look_18 (by decide) ?_
    refine mc_Vi (rest := []) (wr := []) F hK hP hD hS hA (m_fails l D h0 m_tape m_rule m_rules m_stair m_low m_high m_crack m_weight m_fire m_crowd m_state m_where m_words m_told m_breaks m_row m_tried m_steps m_paths 0 0 0 0 0 ((-1)) 5 5 0 0 0 0 0 0 0 0 0 0 1 ) ⟨gk_X10_224.1, gk_X10_224.2, Nat.le_of_ble_eq_true rfl, Nat.le_of_ble_eq_true rfl⟩ [0] [] [] ⟨rfl, rfl, rfl, rfl, by decide⟩ rfl xT_move (fun _ _ _ => trivial) 0 rfl rfl rfl hl.1 rfl (Nat.le_of_ble_eq_true rfl) dX10_look_19 ⟨Nat.le_of_ble_eq_true rfl, Nat.le_of_ble_eq_true rfl⟩ (fun r_5 _ H locs hw hK1 hP hD hS => ?_)
    have hP : va_P D vwCl [(h0, .inr (9, [.ref m_tape, .int 0, .int 1, .ref m_rule, .ref m_rules, .int 0, .ref m_stair, .int 0, .int 0, .int (((-1))), .int 5, .int 5, .ref m_low, .ref m_high, .ref m_crack, .int 0, .ref m_weight, .ref m_fire, .ref m_crowd, .ref m_state, .ref m_where, .int 0, .int 0, .int 0, .ref m_words, .int 0, .int 0, .int 0, .int 0, .int 0, .int 0, .ref m_told, .ref m_breaks, .ref m_row, .ref m_tried, .ref m_steps, .ref m_paths]))] H := hP
    have hD : va_D A [(h0, .inr (9, [.ref m_tape, .int 0, .int 1, .ref m_rule, .ref m_rules, .int 0, .ref m_stair, .int 0, .int 0, .int (((-1))), .int 5, .int 5, .ref m_low, .ref m_high, .ref m_crack, .int 0, .ref m_weight, .ref m_fire, .ref m_crowd, .ref m_state, .ref m_where, .int 0, .int 0, .int 0, .ref m_words, .int 0, .int 0, .int 0, .int 0, .int 0, .int 0, .ref m_told, .ref m_breaks, .ref m_row, .ref m_tried, .ref m_steps, .ref m_paths]))] := hD
    have hw_6 : r_5 = 0 := hw
    obtain rfl : r_5 = 0 := hw_6
    have hP9 := hP.sub (ws' := [(h0, .inr (9, [.ref m_tape, .int 0, .int 1, .ref m_rule, .ref m_rules, .int 0, .ref m_stair, .int 0, .int 0, .int ((-1)), .int 5, .int 5, .ref m_low, .ref m_high, .ref m_crack, .int 0, .ref m_weight, .ref m_fire, .ref m_crowd, .ref m_state, .ref m_where, .int 0, .int 0, .int 0, .ref m_words, .int 0, .int 0, .int 0, .int 0, .int 0, .int 0, .ref m_told, .ref m_breaks, .ref m_row, .ref m_tried, .ref m_steps, .ref m_paths]))]) [0] rfl
    have hD9 := hD.sub (ws' := [(h0, .inr (9, [.ref m_tape, .int 0, .int 1, .ref m_rule, .ref m_rules, .int 0, .ref m_stair, .int 0, .int 0, .int ((-1)), .int 5, .int 5, .ref m_low, .ref m_high, .ref m_crack, .int 0, .ref m_weight, .ref m_fire, .ref m_crowd, .ref m_state, .ref m_where, .int 0, .int 0, .int 0, .ref m_words, .int 0, .int 0, .int 0, .int 0, .int 0, .int 0, .ref m_told, .ref m_breaks, .ref m_row, .ref m_tried, .ref m_steps, .ref m_paths]))]) [0] (by decide) rfl
    have hK9 := hK.sub (tys' := []) [] rfl
    refine W.widen (k := 0) (n := 0) (by decide) (by decide) ?_
    exact W.iret (v := 0) hx hb hr (fun t ht hW => ⟨⟨0, (), rfl, rfl, by rw [ht]; exact hP9, va_K.moved hW.alike hK9, hD9⟩, hS.F ht⟩) hS.2.2 dX10_look_22
theorem dX10_count_103 : decode cX10_count 103 = .ok (.iload_n 3, 1) := by decide +kernel
theorem dX10_count_104 : decode cX10_count 104 = .ok (.bipush 100, 2) := by decide +kernel
theorem dX10_count_106 : decode cX10_count 106 = .ok (.if_icmp .ge 26, 3) := by decide +kernel
theorem dX10_count_109 : decode cX10_count 109 = .ok (.iload_n 2, 1) := by decide +kernel
theorem dX10_count_110 : decode cX10_count 110 = .ok (.aload_n 0, 1) := by decide +kernel
theorem dX10_count_111 : decode cX10_count 111 = .ok (.getfield 38, 3) := by decide +kernel
theorem dX10_count_114 : decode cX10_count 114 = .ok (.iload_n 3, 1) := by decide +kernel
theorem dX10_count_115 : decode cX10_count 115 = .ok (.baload, 1) := by decide +kernel
theorem dX10_count_116 : decode cX10_count 116 = .ok (.ifCond .eq 7, 3) := by decide +kernel
theorem dX10_count_123 : decode cX10_count 123 = .ok (.iconst 0, 1) := by decide +kernel
theorem dX10_count_124 : decode cX10_count 124 = .ok (.iadd, 1) := by decide +kernel
theorem dX10_count_125 : decode cX10_count 125 = .ok (.istore_n 2, 1) := by decide +kernel
theorem dX10_count_126 : decode cX10_count 126 = .ok (.iinc 3 1, 3) := by decide +kernel
theorem dX10_count_129 : decode cX10_count 129 = .ok (.goto (-26), 3) := by decide +kernel
set_option maxHeartbeats 4000000 in
set_option maxRecDepth 100000 in
theorem lp_m_count {p : Program} {l : Launch} {e : Env} {s : State} {m : MethodId} {args : Array Value} {below : List Frame} {meth : Method} {c : Code} {Q : State → Prop} {A : Nat → Prop} {D : va_G} (F : mFix p s m args c cX10_count 4 RX10) (hA : ∀ q, s.heap.size ≤ q → A q) (h0 : Nat) (m_tape : Nat) (m_rule : Nat) (m_rules : Nat) (m_stair : Nat) (m_low : Nat) (m_high : Nat) (m_crack : Nat) (m_weight : Nat) (m_fire : Nat) (m_crowd : Nat) (m_state : Nat) (m_where : Nat) (m_words : Nat) (m_told : Nat) (m_breaks : Nat) (m_row : Nat) (m_tried : Nat) (m_steps : Nat) (m_paths : Nat) (y_crack : ClassId) (hK : va_K D vwCl [(y_crack, .boolean)] s)
    (kx_132 : ∀ (H : Heap) (locs : List Loc), va_P D vwCl [(h0, .inr (9, [.ref m_tape, .int 0, .int 0, .ref m_rule, .ref m_rules, .int 0, .ref m_stair, .int 0, .int 0, .int ((-1)), .int 5, .int 5, .ref m_low, .ref m_high, .ref m_crack, .int 0, .ref m_weight, .ref m_fire, .ref m_crowd, .ref m_state, .ref m_where, .int 0, .int 0, .int 0, .ref m_words, .int 0, .int 0, .int 0, .int 0, .int 0, .int 0, .ref m_told, .ref m_breaks, .ref m_row, .ref m_tried, .ref m_steps, .ref m_paths])), (m_crack, .inl (y_crack, 100, .inl (fun _ => 0)))] H → va_D A [(h0, .inr (9, [.ref m_tape, .int 0, .int 0, .ref m_rule, .ref m_rules, .int 0, .ref m_stair, .int 0, .int 0, .int ((-1)), .int 5, .int 5, .ref m_low, .ref m_high, .ref m_crack, .int 0, .ref m_weight, .ref m_fire, .ref m_crowd, .ref m_state, .ref m_where, .int 0, .int 0, .int 0, .ref m_words, .int 0, .int 0, .int 0, .int 0, .int 0, .int 0, .ref m_told, .ref m_breaks, .ref m_row, .ref m_tried, .ref m_steps, .ref m_paths])), (m_crack, .inl (y_crack, 100, .inl (fun _ => 0)))] → va_S A s.heap H locs → ∀ ls : Array Slot, lv_has ls 4 [(2, .int 0)] → W p l e ({ frames := 3, cells := 0, slots := 0, locals := 65 }) s m args below meth c H locs 0 0 Q (F0 m 132 ls [])) :
    ∀ n : Nat, ∀ (i : Nat), (i ≤ 100) → (100 - i) < n → ∀ (H : Heap) (locs : List Loc), va_P D vwCl [(h0, .inr (9, [.ref m_tape, .int 0, .int 0, .ref m_rule, .ref m_rules, .int 0, .ref m_stair, .int 0, .int 0, .int ((-1)), .int 5, .int 5, .ref m_low, .ref m_high, .ref m_crack, .int 0, .ref m_weight, .ref m_fire, .ref m_crowd, .ref m_state, .ref m_where, .int 0, .int 0, .int 0, .ref m_words, .int 0, .int 0, .int 0, .int 0, .int 0, .int 0, .ref m_told, .ref m_breaks, .ref m_row, .ref m_tried, .ref m_steps, .ref m_paths])), (m_crack, .inl (y_crack, 100, .inl (fun _ => 0)))] H → va_D A [(h0, .inr (9, [.ref m_tape, .int 0, .int 0, .ref m_rule, .ref m_rules, .int 0, .ref m_stair, .int 0, .int 0, .int ((-1)), .int 5, .int 5, .ref m_low, .ref m_high, .ref m_crack, .int 0, .ref m_weight, .ref m_fire, .ref m_crowd, .ref m_state, .ref m_where, .int 0, .int 0, .int 0, .ref m_words, .int 0, .int 0, .int 0, .int 0, .int 0, .int 0, .ref m_told, .ref m_breaks, .ref m_row, .ref m_tried, .ref m_steps, .ref m_paths])), (m_crack, .inl (y_crack, 100, .inl (fun _ => 0)))] → va_S A s.heap H locs → ∀ ls : Array Slot, lv_has ls 4 [(0, .ref h0), (2, .int 0), (3, .int (nI i))] → W p l e ({ frames := 3, cells := 0, slots := 0, locals := 65 }) s m args below meth c H locs 0 0 Q (F0 m 103 ls []) := by
  intro n
  induction n with
  | zero => intro i hi hn; exact absurd hn (Nat.not_lt_zero _)
  | succ n ih =>
    intro i hi hn H locs hP hD hS ls hl
    obtain ⟨hx, hb, hml, hown, hts⟩ := id F
    refine lv_iload_n hx hb dX10_count_103 rfl (lv_at hl 2 rfl) ?_
    refine lv_bipush (v := 100) hx hb dX10_count_104 (by decide) ?_
    refine lv_icmp_ge (tgt := 132) hx hb dX10_count_106 (by decide) (fun c_1 => ?_) (fun c_1 => ?_)
    · skip
      have c_1n : 100 ≤ i := (nI_leI (by omega) (by omega)).mp c_1
      have c_1 := Int32.not_lt.mpr c_1
      exact kx_132   H locs (hP.sub [0, 1] rfl) (hD.sub [0, 1] (by decide) rfl) hS ls (lv_sub hl [1] rfl)
    · skip
      have c_1n : i < 100 := nb_le (by omega) (by omega) c_1
      have c_1 := Int32.not_le.mp c_1
      refine lv_iload_n hx hb dX10_count_109 rfl (lv_at hl 1 rfl) ?_
      refine lv_aload_n hx hb dX10_count_110 rfl (lv_at hl 0 rfl) ?_
      refine va_get (D := D) (ci := 9) (v := .ref m_crack) (C := RX10) (T := TX10) (N := 37) hx hb hts inG_X10 hown hK hP 0 rfl rfl 14 (by decide) (hts _ kw_4_209) (fun _ h9 => h9) rfl dX10_count_111 ?_
      refine lv_iload_n hx hb dX10_count_114 rfl (lv_at hl 2 rfl) ?_
      refine m_zald hx hb hK hP 1 0 rfl rfl i rfl (by omega) (by decide) dX10_count_115 ?_
      refine lv_if_eq (tgt := 123) hx hb dX10_count_116 (by decide) (fun c_2 => ?_) (fun c_2 => absurd c_2 (by decide))
      refine lv_iconst (v := 0) hx hb dX10_count_123 (by decide) ?_
      refine lv_iadd hx hb dX10_count_124 ?_
      refine lv_topi (fun z_3 ez_3 => ?_)
      obtain rfl : z_3 = (0 : Int32) := ez_3.trans (by decide)
      refine lv_istore_n (lv' := [(2, .int 0), (0, .ref h0), (3, .int (nI i))]) hx hb dX10_count_125 rfl hl (by decide) rfl (fun ls hl => ?_)
      refine lv_iinc (v := nI (i + 1)) (lv' := [(3, .int (nI (i + 1))), (2, .int 0), (0, .ref h0)]) hx hb dX10_count_126 hl (k := 2) rfl (nI_add i 1) (by decide) rfl (fun ls hl => ?_)
      refine lv_goto (tgt := 103) hx hb dX10_count_129 (by decide) ?_
      exact ih (i + 1) (by omega) (by omega) H locs (hP.sub [0, 1] rfl) (hD.sub [0, 1] (by decide) rfl) hS ls (lv_sub hl [2, 1, 0] rfl)
theorem dX10_count_0 : decode cX10_count 0 = .ok (.aload_n 0, 1) := by decide +kernel
theorem dX10_count_1 : decode cX10_count 1 = .ok (.iconst 0, 1) := by decide +kernel
theorem dX10_count_2 : decode cX10_count 2 = .ok (.putfield 78, 3) := by decide +kernel
theorem dX10_count_5 : decode cX10_count 5 = .ok (.iconst 0, 1) := by decide +kernel
theorem dX10_count_6 : decode cX10_count 6 = .ok (.istore_n 2, 1) := by decide +kernel
theorem dX10_count_7 : decode cX10_count 7 = .ok (.iload_n 1, 1) := by decide +kernel
theorem dX10_count_8 : decode cX10_count 8 = .ok (.tableswitch 180 0 8 #[52, 57, 57, 93, 126, 131, 136, 141, 146], 52) := by decide +kernel
theorem dX10_count_60 : decode cX10_count 60 = .ok (.aload_n 0, 1) := by decide +kernel
theorem dX10_count_61 : decode cX10_count 61 = .ok (.getfield 146, 3) := by decide +kernel
theorem dX10_count_64 : decode cX10_count 64 = .ok (.ireturn, 1) := by decide +kernel
theorem dX10_count_65 : decode cX10_count 65 = .ok (.iconst 0, 1) := by decide +kernel
theorem dX10_count_66 : decode cX10_count 66 = .ok (.istore_n 3, 1) := by decide +kernel
theorem dX10_count_67 : decode cX10_count 67 = .ok (.iload_n 3, 1) := by decide +kernel
theorem dX10_count_68 : decode cX10_count 68 = .ok (.aload_n 0, 1) := by decide +kernel
theorem dX10_count_69 : decode cX10_count 69 = .ok (.getfield 146, 3) := by decide +kernel
theorem dX10_count_72 : decode cX10_count 72 = .ok (.if_icmp .ge 27, 3) := by decide +kernel
theorem dX10_count_99 : decode cX10_count 99 = .ok (.iload_n 2, 1) := by decide +kernel
theorem dX10_count_100 : decode cX10_count 100 = .ok (.ireturn, 1) := by decide +kernel
theorem dX10_count_101 : decode cX10_count 101 = .ok (.iconst 0, 1) := by decide +kernel
theorem dX10_count_102 : decode cX10_count 102 = .ok (.istore_n 3, 1) := by decide +kernel
theorem dX10_count_132 : decode cX10_count 132 = .ok (.iload_n 2, 1) := by decide +kernel
theorem dX10_count_133 : decode cX10_count 133 = .ok (.ireturn, 1) := by decide +kernel
theorem dX10_count_134 : decode cX10_count 134 = .ok (.aload_n 0, 1) := by decide +kernel
theorem dX10_count_135 : decode cX10_count 135 = .ok (.getfield 149, 3) := by decide +kernel
theorem dX10_count_138 : decode cX10_count 138 = .ok (.ireturn, 1) := by decide +kernel
theorem dX10_count_139 : decode cX10_count 139 = .ok (.aload_n 0, 1) := by decide +kernel
theorem dX10_count_140 : decode cX10_count 140 = .ok (.getfield 152, 3) := by decide +kernel
theorem dX10_count_143 : decode cX10_count 143 = .ok (.ireturn, 1) := by decide +kernel
theorem dX10_count_144 : decode cX10_count 144 = .ok (.aload_n 0, 1) := by decide +kernel
theorem dX10_count_145 : decode cX10_count 145 = .ok (.getfield 192, 3) := by decide +kernel
theorem dX10_count_148 : decode cX10_count 148 = .ok (.ireturn, 1) := by decide +kernel
theorem dX10_count_149 : decode cX10_count 149 = .ok (.aload_n 0, 1) := by decide +kernel
theorem dX10_count_150 : decode cX10_count 150 = .ok (.getfield 143, 3) := by decide +kernel
theorem dX10_count_153 : decode cX10_count 153 = .ok (.ireturn, 1) := by decide +kernel
theorem dX10_count_154 : decode cX10_count 154 = .ok (.iconst 0, 1) := by decide +kernel
theorem dX10_count_155 : decode cX10_count 155 = .ok (.istore_n 3, 1) := by decide +kernel
theorem dX10_count_156 : decode cX10_count 156 = .ok (.iload_n 3, 1) := by decide +kernel
theorem dX10_count_157 : decode cX10_count 157 = .ok (.aload_n 0, 1) := by decide +kernel
theorem dX10_count_158 : decode cX10_count 158 = .ok (.getfield 146, 3) := by decide +kernel
theorem dX10_count_161 : decode cX10_count 161 = .ok (.if_icmp .ge 25, 3) := by decide +kernel
theorem dX10_count_186 : decode cX10_count 186 = .ok (.iload_n 2, 1) := by decide +kernel
theorem dX10_count_187 : decode cX10_count 187 = .ok (.ireturn, 1) := by decide +kernel
theorem dX10_count_188 : decode cX10_count 188 = .ok (.iconst (-1), 1) := by decide +kernel
theorem dX10_count_189 : decode cX10_count 189 = .ok (.ireturn, 1) := by decide +kernel
set_option maxHeartbeats 4000000 in
set_option maxRecDepth 100000 in
theorem m_count (l : Launch) (D : va_G) (h0 : Nat) (m_tape : Nat) (m_rule : Nat) (m_rules : Nat) (m_stair : Nat) (m_low : Nat) (m_high : Nat) (m_crack : Nat) (m_weight : Nat) (m_fire : Nat) (m_crowd : Nat) (m_state : Nat) (m_where : Nat) (m_words : Nat) (m_told : Nat) (m_breaks : Nat) (m_row : Nat) (m_tried : Nat) (m_steps : Nat) (m_paths : Nat) (y_crack : ClassId) (w : Int32) : cI l yX10_count (.code yX10_count cX10_count 4 (some .int)) ({ frames := 3, cells := 0, slots := 0, locals := 65 }) D [(y_crack, .boolean)] [(h0, .inr (9, [.ref m_tape, .int 0, .int 0, .ref m_rule, .ref m_rules, .int 0, .ref m_stair, .int 0, .int 0, .int ((-1)), .int 5, .int 5, .ref m_low, .ref m_high, .ref m_crack, .int 0, .ref m_weight, .ref m_fire, .ref m_crowd, .ref m_state, .ref m_where, .int 0, .int 0, .int 0, .ref m_words, .int 0, .int 0, .int 0, .int 0, .int 0, .int 0, .ref m_told, .ref m_breaks, .ref m_row, .ref m_tried, .ref m_steps, .ref m_paths])), (m_crack, .inl (y_crack, 100, .inl (fun _ => 0)))] xT [.ref h0, .int w] (S := Unit) (fun r _ => r = (if w < 0 ∨ 8 < w then (-1) else 0)) (fun _ => []) (fun _ => []) := by
  intro sz
  refine Met.ofW (cc := cX10_count) (maxL := 4) (ret := (some .int)) (by decide) rfl ?_
  intro p e s m args below meth c s₁ B hml hv
  obtain ⟨rfl, hsz, hP, hK, hD0, hX⟩ := hv
  have hx := B.exec
  have hb := B.bytes
  have hr := B.returns
  have hts0 := atoms_spec (ws := .code yX10_count cX10_count 4 (some .int) :: gw) B.pre
  have hts := fun (w : Cond) (h : w ∈ gw) => hts0 w (List.mem_cons_of_mem _ h)
  have hown : s.vm.findClass RX10 = some m.cls := findClass_of_methodNamed B.named
  have hlocks := B.notSynchronized
  have F : mFix p s m _ c cX10_count 4 RX10 := ⟨hx, hb, hml, hown, hts⟩
  subst hsz
  have hD := hD0.self (sz := s.heap.size)
  generalize hAe : va_A [(h0, .inr (9, [.ref m_tape, .int 0, .int 0, .ref m_rule, .ref m_rules, .int 0, .ref m_stair, .int 0, .int 0, .int ((-1)), .int 5, .int 5, .ref m_low, .ref m_high, .ref m_crack, .int 0, .ref m_weight, .ref m_fire, .ref m_crowd, .ref m_state, .ref m_where, .int 0, .int 0, .int 0, .ref m_words, .int 0, .int 0, .int 0, .int 0, .int 0, .int 0, .ref m_told, .ref m_breaks, .ref m_row, .ref m_tried, .ref m_steps, .ref m_paths])), (m_crack, .inl (y_crack, 100, .inl (fun _ => 0)))] s.heap.size = A at hD hX ⊢
  have hA : ∀ q : Nat, s.heap.size ≤ q → A q := fun q h => by rw [← hAe]; exact Or.inr h
  have hS : va_S A s.heap s.heap [] := va_S.rf
  have hl := lv_entry ([.ref h0, .int w]) (n := 4) (Nat.le_of_ble_eq_true rfl)
  rw [lg_entry_eq]
  generalize (lg_sl ([.ref h0, .int w]) ++ List.replicate (4 - (lg_sl ([.ref h0, .int w])).length) Slot.unset).toArray = ls at hl ⊢
  have hl : lv_has ls 4 [(0, .ref h0), (1, .int w)] := hl
  have hP : va_P D vwCl [(h0, .inr (9, [.ref m_tape, .int 0, .int 0, .ref m_rule, .ref m_rules, .int 0, .ref m_stair, .int 0, .int 0, .int ((-1)), .int 5, .int 5, .ref m_low, .ref m_high, .ref m_crack, .int 0, .ref m_weight, .ref m_fire, .ref m_crowd, .ref m_state, .ref m_where, .int 0, .int 0, .int 0, .ref m_words, .int 0, .int 0, .int 0, .int 0, .int 0, .int 0, .ref m_told, .ref m_breaks, .ref m_row, .ref m_tried, .ref m_steps, .ref m_paths])), (m_crack, .inl (y_crack, 100, .inl (fun _ => 0)))] s.heap := hP
  refine lv_aload_n hx hb dX10_count_0 rfl (lv_at hl 0 rfl) ?_
  refine lv_iconst (v := 0) hx hb dX10_count_1 (by decide) ?_
  refine va_put (D := D) (ci := 9) (v := .int 0) (ty := .int) (C := RX10) (T := TX10) (N := 37) hx hb hts inG_X10 tyX10 tyX10_ok nmX10 hown hK hP hD hS 0 rfl rfl 2 (by decide) (hts _ kw_4_197) (fun _ h9 => h9) rfl (by decide +kernel) rfl rfl (Nat.le_of_ble_eq_true rfl) dX10_count_2 (fun H locs hP hD hS => ?_)
  have hP : va_P D vwCl [(h0, .inr (9, [.ref m_tape, .int 0, .int 0, .ref m_rule, .ref m_rules, .int 0, .ref m_stair, .int 0, .int 0, .int ((-1)), .int 5, .int 5, .ref m_low, .ref m_high, .ref m_crack, .int 0, .ref m_weight, .ref m_fire, .ref m_crowd, .ref m_state, .ref m_where, .int 0, .int 0, .int 0, .ref m_words, .int 0, .int 0, .int 0, .int 0, .int 0, .int 0, .ref m_told, .ref m_breaks, .ref m_row, .ref m_tried, .ref m_steps, .ref m_paths])), (m_crack, .inl (y_crack, 100, .inl (fun _ => 0)))] H := hP
  have hD : va_D A [(h0, .inr (9, [.ref m_tape, .int 0, .int 0, .ref m_rule, .ref m_rules, .int 0, .ref m_stair, .int 0, .int 0, .int ((-1)), .int 5, .int 5, .ref m_low, .ref m_high, .ref m_crack, .int 0, .ref m_weight, .ref m_fire, .ref m_crowd, .ref m_state, .ref m_where, .int 0, .int 0, .int 0, .ref m_words, .int 0, .int 0, .int 0, .int 0, .int 0, .int 0, .ref m_told, .ref m_breaks, .ref m_row, .ref m_tried, .ref m_steps, .ref m_paths])), (m_crack, .inl (y_crack, 100, .inl (fun _ => 0)))] := hD
  refine lv_iconst (v := 0) hx hb dX10_count_5 (by decide) ?_
  refine lv_istore_n (lv' := [(2, .int 0), (0, .ref h0), (1, .int w)]) hx hb dX10_count_6 rfl hl (by decide) rfl (fun ls hl => ?_)
  refine lv_iload_n hx hb dX10_count_7 rfl (lv_at hl 2 rfl) ?_
  by_cases w_1_0 : w = 0
  · skip
    subst w_1_0
    refine lv_tableIn (tgt := 60) hx hb dX10_count_8 (by decide) (by decide) rfl (by decide) ?_
    have hl : lv_has ls 4 [(2, .int 0), (0, .ref h0), (1, .int 0)] := hl
    refine lv_aload_n hx hb dX10_count_60 rfl (lv_at hl 1 rfl) ?_
    refine va_get (D := D) (ci := 9) (v := .int 0) (C := RX10) (T := TX10) (N := 37) hx hb hts inG_X10 hown hK hP 0 rfl rfl 15 (by decide) (hts _ kw_4_210) (fun _ h9 => h9) rfl dX10_count_61 ?_
    have hP9 := hP.sub (ws' := []) [] rfl
    have hD9 := hD.sub (ws' := []) [] (by decide) rfl
    have hK9 := hK.sub (tys' := []) [] rfl
    refine W.widen (k := 0) (n := 0) (by decide) (by decide) ?_
    exact W.iret (v := 0) hx hb hr (fun t ht hW => ⟨⟨0, (), rfl, by decide, by rw [ht]; exact hP9, va_K.moved hW.alike hK9, hD9⟩, hS.F ht⟩) hS.2.2 dX10_count_64
  by_cases w_1_1 : w = 1
  · skip
    subst w_1_1
    refine lv_tableIn (tgt := 65) hx hb dX10_count_8 (by decide) (by decide) rfl (by decide) ?_
    have hl : lv_has ls 4 [(2, .int 0), (0, .ref h0), (1, .int 1)] := hl
    refine lv_iconst (v := 0) hx hb dX10_count_65 (by decide) ?_
    refine lv_istore_n (lv' := [(3, .int 0), (2, .int 0), (0, .ref h0), (1, .int 1)]) hx hb dX10_count_66 rfl hl (by decide) rfl (fun ls hl => ?_)
    refine lv_iload_n hx hb dX10_count_67 rfl (lv_at hl 0 rfl) ?_
    refine lv_aload_n hx hb dX10_count_68 rfl (lv_at hl 2 rfl) ?_
    refine va_get (D := D) (ci := 9) (v := .int 0) (C := RX10) (T := TX10) (N := 37) hx hb hts inG_X10 hown hK hP 0 rfl rfl 15 (by decide) (hts _ kw_4_210) (fun _ h9 => h9) rfl dX10_count_69 ?_
    refine lv_icmp_ge (tgt := 99) hx hb dX10_count_72 (by decide) (fun c_2 => ?_) (fun c_2 => absurd c_2 (by decide))
    refine lv_iload_n hx hb dX10_count_99 rfl (lv_at hl 1 rfl) ?_
    have hP9 := hP.sub (ws' := []) [] rfl
    have hD9 := hD.sub (ws' := []) [] (by decide) rfl
    have hK9 := hK.sub (tys' := []) [] rfl
    refine W.widen (k := 0) (n := 0) (by decide) (by decide) ?_
    exact W.iret (v := 0) hx hb hr (fun t ht hW => ⟨⟨0, (), rfl, by decide, by rw [ht]; exact hP9, va_K.moved hW.alike hK9, hD9⟩, hS.F ht⟩) hS.2.2 dX10_count_100
  by_cases w_1_2 : w = 2
  · skip
    subst w_1_2
    refine lv_tableIn (tgt := 65) hx hb dX10_count_8 (by decide) (by decide) rfl (by decide) ?_
    have hl : lv_has ls 4 [(2, .int 0), (0, .ref h0), (1, .int 2)] := hl
    refine lv_iconst (v := 0) hx hb dX10_count_65 (by decide) ?_
    refine lv_istore_n (lv' := [(3, .int 0), (2, .int 0), (0, .ref h0), (1, .int 2)]) hx hb dX10_count_66 rfl hl (by decide) rfl (fun ls hl => ?_)
    refine lv_iload_n hx hb dX10_count_67 rfl (lv_at hl 0 rfl) ?_
    refine lv_aload_n hx hb dX10_count_68 rfl (lv_at hl 2 rfl) ?_
    refine va_get (D := D) (ci := 9) (v := .int 0) (C := RX10) (T := TX10) (N := 37) hx hb hts inG_X10 hown hK hP 0 rfl rfl 15 (by decide) (hts _ kw_4_210) (fun _ h9 => h9) rfl dX10_count_69 ?_
    refine lv_icmp_ge (tgt := 99) hx hb dX10_count_72 (by decide) (fun c_3 => ?_) (fun c_3 => absurd c_3 (by decide))
    refine lv_iload_n hx hb dX10_count_99 rfl (lv_at hl 1 rfl) ?_
    have hP9 := hP.sub (ws' := []) [] rfl
    have hD9 := hD.sub (ws' := []) [] (by decide) rfl
    have hK9 := hK.sub (tys' := []) [] rfl
    refine W.widen (k := 0) (n := 0) (by decide) (by decide) ?_
    exact W.iret (v := 0) hx hb hr (fun t ht hW => ⟨⟨0, (), rfl, by decide, by rw [ht]; exact hP9, va_K.moved hW.alike hK9, hD9⟩, hS.F ht⟩) hS.2.2 dX10_count_100
  by_cases w_1_3 : w = 3
  · skip
    subst w_1_3
    refine lv_tableIn (tgt := 101) hx hb dX10_count_8 (by decide) (by decide) rfl (by decide) ?_
    have hl : lv_has ls 4 [(2, .int 0), (0, .ref h0), (1, .int 3)] := hl
    refine lv_iconst (v := 0) hx hb dX10_count_101 (by decide) ?_
    refine lv_istore_n (lv' := [(3, .int 0), (2, .int 0), (0, .ref h0), (1, .int 3)]) hx hb dX10_count_102 rfl hl (by decide) rfl (fun ls hl => ?_)
    refine lp_m_count F hA h0 m_tape m_rule m_rules m_stair m_low m_high m_crack m_weight m_fire m_crowd m_state m_where m_words m_told m_breaks m_row m_tried m_steps m_paths y_crack (hK.sub [0] rfl) (fun   H locs hP hD hS ls hl => ?_) _ 0 (by omega) (Nat.lt_succ_self _) _ _ (hP.sub [0, 1] rfl) (hD.sub [0, 1] (by decide) rfl) hS ls (lv_sub hl [2, 1, 0] rfl)
    refine lv_iload_n hx hb dX10_count_132 rfl (lv_at hl 0 rfl) ?_
    have hP9 := hP.sub (ws' := []) [] rfl
    have hD9 := hD.sub (ws' := []) [] (by decide) rfl
    have hK9 := hK.sub (tys' := []) [] rfl
    refine W.widen (k := 0) (n := 0) (by decide) (by decide) ?_
    exact W.iret (v := 0) hx hb hr (fun t ht hW => ⟨⟨0, (), rfl, by decide, by rw [ht]; exact hP9, va_K.moved hW.alike hK9, hD9⟩, hS.F ht⟩) hS.2.2 dX10_count_133
  by_cases w_1_4 : w = 4
  · skip
    subst w_1_4
    refine lv_tableIn (tgt := 134) hx hb dX10_count_8 (by decide) (by decide) rfl (by decide) ?_
    have hl : lv_has ls 4 [(2, .int 0), (0, .ref h0), (1, .int 4)] := hl
    refine lv_aload_n hx hb dX10_count_134 rfl (lv_at hl 1 rfl) ?_
    refine va_get (D := D) (ci := 9) (v := .int 0) (C := RX10) (T := TX10) (N := 37) hx hb hts inG_X10 hown hK hP 0 rfl rfl 21 (by decide) (hts _ kw_4_216) (fun _ h9 => h9) rfl dX10_count_135 ?_
    have hP9 := hP.sub (ws' := []) [] rfl
    have hD9 := hD.sub (ws' := []) [] (by decide) rfl
    have hK9 := hK.sub (tys' := []) [] rfl
    refine W.widen (k := 0) (n := 0) (by decide) (by decide) ?_
    exact W.iret (v := 0) hx hb hr (fun t ht hW => ⟨⟨0, (), rfl, by decide, by rw [ht]; exact hP9, va_K.moved hW.alike hK9, hD9⟩, hS.F ht⟩) hS.2.2 dX10_count_138
  by_cases w_1_5 : w = 5
  · skip
    subst w_1_5
    refine lv_tableIn (tgt := 139) hx hb dX10_count_8 (by decide) (by decide) rfl (by decide) ?_
    have hl : lv_has ls 4 [(2, .int 0), (0, .ref h0), (1, .int 5)] := hl
    refine lv_aload_n hx hb dX10_count_139 rfl (lv_at hl 1 rfl) ?_
    refine va_get (D := D) (ci := 9) (v := .int 0) (C := RX10) (T := TX10) (N := 37) hx hb hts inG_X10 hown hK hP 0 rfl rfl 22 (by decide) (hts _ kw_4_217) (fun _ h9 => h9) rfl dX10_count_140 ?_
    have hP9 := hP.sub (ws' := []) [] rfl
    have hD9 := hD.sub (ws' := []) [] (by decide) rfl
    have hK9 := hK.sub (tys' := []) [] rfl
    refine W.widen (k := 0) (n := 0) (by decide) (by decide) ?_
    exact W.iret (v := 0) hx hb hr (fun t ht hW => ⟨⟨0, (), rfl, by decide, by rw [ht]; exact hP9, va_K.moved hW.alike hK9, hD9⟩, hS.F ht⟩) hS.2.2 dX10_count_143
  by_cases w_1_6 : w = 6
  · skip
    subst w_1_6
    refine lv_tableIn (tgt := 144) hx hb dX10_count_8 (by decide) (by decide) rfl (by decide) ?_
    have hl : lv_has ls 4 [(2, .int 0), (0, .ref h0), (1, .int 6)] := hl
    refine lv_aload_n hx hb dX10_count_144 rfl (lv_at hl 1 rfl) ?_
    refine va_get (D := D) (ci := 9) (v := .int 0) (C := RX10) (T := TX10) (N := 37) hx hb hts inG_X10 hown hK hP 0 rfl rfl 23 (by decide) (hts _ kw_4_218) (fun _ h9 => h9) rfl dX10_count_145 ?_
    have hP9 := hP.sub (ws' := []) [] rfl
    have hD9 := hD.sub (ws' := []) [] (by decide) rfl
    have hK9 := hK.sub (tys' := []) [] rfl
    refine W.widen (k := 0) (n := 0) (by decide) (by decide) ?_
    exact W.iret (v := 0) hx hb hr (fun t ht hW => ⟨⟨0, (), rfl, by decide, by rw [ht]; exact hP9, va_K.moved hW.alike hK9, hD9⟩, hS.F ht⟩) hS.2.2 dX10_count_148
  by_cases w_1_7 : w = 7
  · skip
    subst w_1_7
    refine lv_tableIn (tgt := 149) hx hb dX10_count_8 (by decide) (by decide) rfl (by decide) ?_
    have hl : lv_has ls 4 [(2, .int 0), (0, .ref h0), (1, .int 7)] := hl
    refine lv_aload_n hx hb dX10_count_149 rfl (lv_at hl 1 rfl) ?_
    refine va_get (D := D) (ci := 9) (v := .int 0) (C := RX10) (T := TX10) (N := 37) hx hb hts inG_X10 hown hK hP 0 rfl rfl 5 (by decide) (hts _ kw_4_200) (fun _ h9 => h9) rfl dX10_count_150 ?_
    have hP9 := hP.sub (ws' := []) [] rfl
    have hD9 := hD.sub (ws' := []) [] (by decide) rfl
    have hK9 := hK.sub (tys' := []) [] rfl
    refine W.widen (k := 0) (n := 0) (by decide) (by decide) ?_
    exact W.iret (v := 0) hx hb hr (fun t ht hW => ⟨⟨0, (), rfl, by decide, by rw [ht]; exact hP9, va_K.moved hW.alike hK9, hD9⟩, hS.F ht⟩) hS.2.2 dX10_count_153
  by_cases w_1_8 : w = 8
  · skip
    subst w_1_8
    refine lv_tableIn (tgt := 154) hx hb dX10_count_8 (by decide) (by decide) rfl (by decide) ?_
    have hl : lv_has ls 4 [(2, .int 0), (0, .ref h0), (1, .int 8)] := hl
    refine lv_iconst (v := 0) hx hb dX10_count_154 (by decide) ?_
    refine lv_istore_n (lv' := [(3, .int 0), (2, .int 0), (0, .ref h0), (1, .int 8)]) hx hb dX10_count_155 rfl hl (by decide) rfl (fun ls hl => ?_)
    refine lv_iload_n hx hb dX10_count_156 rfl (lv_at hl 0 rfl) ?_
    refine lv_aload_n hx hb dX10_count_157 rfl (lv_at hl 2 rfl) ?_
    refine va_get (D := D) (ci := 9) (v := .int 0) (C := RX10) (T := TX10) (N := 37) hx hb hts inG_X10 hown hK hP 0 rfl rfl 15 (by decide) (hts _ kw_4_210) (fun _ h9 => h9) rfl dX10_count_158 ?_
    refine lv_icmp_ge (tgt := 186) hx hb dX10_count_161 (by decide) (fun c_4 => ?_) (fun c_4 => absurd c_4 (by decide))
    refine lv_iload_n hx hb dX10_count_186 rfl (lv_at hl 1 rfl) ?_
    have hP9 := hP.sub (ws' := []) [] rfl
    have hD9 := hD.sub (ws' := []) [] (by decide) rfl
    have hK9 := hK.sub (tys' := []) [] rfl
    refine W.widen (k := 0) (n := 0) (by decide) (by decide) ?_
    exact W.iret (v := 0) hx hb hr (fun t ht hW => ⟨⟨0, (), rfl, by decide, by rw [ht]; exact hP9, va_K.moved hW.alike hK9, hD9⟩, hS.F ht⟩) hS.2.2 dX10_count_187
  refine lv_tableOut (tgt := 188) hx hb dX10_count_8 (m_out w (by decide) (by decide) (fun j h1 h2 => ?_)) (by decide) ?_
  · skip
    rcases (show j = 0 ∨ j = 1 ∨ j = 2 ∨ j = 3 ∨ j = 4 ∨ j = 5 ∨ j = 6 ∨ j = 7 ∨ j = 8 by omega) with rfl | rfl | rfl | rfl | rfl | rfl | rfl | rfl | rfl
    · exact w_1_0
    · exact w_1_1
    · exact w_1_2
    · exact w_1_3
    · exact w_1_4
    · exact w_1_5
    · exact w_1_6
    · exact w_1_7
    · exact w_1_8
  refine lv_iconst (v := -1) hx hb dX10_count_188 (by decide) ?_
  have hP9 := hP.sub (ws' := []) [] rfl
  have hD9 := hD.sub (ws' := []) [] (by decide) rfl
  have hK9 := hK.sub (tys' := []) [] rfl
  refine W.widen (k := 0) (n := 0) (by decide) (by decide) ?_
  exact W.iret (v := (-1)) hx hb hr (fun t ht hW => ⟨⟨((-1)), (), rfl, by rw [if_pos (cnt_out w_1_0 w_1_1 w_1_2 w_1_3 w_1_4 w_1_5 w_1_6 w_1_7 w_1_8)], by rw [ht]; exact hP9, va_K.moved hW.alike hK9, hD9⟩, hS.F ht⟩) hS.2.2 dX10_count_189
theorem dX10_cell_0 : decode cX10_cell 0 = .ok (.aload_n 0, 1) := by decide +kernel
theorem dX10_cell_1 : decode cX10_cell 1 = .ok (.iconst 0, 1) := by decide +kernel
theorem dX10_cell_2 : decode cX10_cell 2 = .ok (.putfield 78, 3) := by decide +kernel
theorem dX10_cell_5 : decode cX10_cell 5 = .ok (.aload_n 0, 1) := by decide +kernel
theorem dX10_cell_6 : decode cX10_cell 6 = .ok (.iload_n 1, 1) := by decide +kernel
theorem dX10_cell_7 : decode cX10_cell 7 = .ok (.iload_n 2, 1) := by decide +kernel
theorem dX10_cell_8 : decode cX10_cell 8 = .ok (.invokevirtual 155, 3) := by decide +kernel
theorem dX10_cell_11 : decode cX10_cell 11 = .ok (.ifCond .ne 9, 3) := by decide +kernel
theorem dX10_cell_14 : decode cX10_cell 14 = .ok (.aload_n 0, 1) := by decide +kernel
theorem dX10_cell_15 : decode cX10_cell 15 = .ok (.iconst 1, 1) := by decide +kernel
theorem dX10_cell_16 : decode cX10_cell 16 = .ok (.invokevirtual 224, 3) := by decide +kernel
theorem dX10_cell_19 : decode cX10_cell 19 = .ok (.ireturn, 1) := by decide +kernel
theorem dX10_cell_20 : decode cX10_cell 20 = .ok (.bipush 10, 2) := by decide +kernel
theorem dX10_cell_22 : decode cX10_cell 22 = .ok (.iload_n 2, 1) := by decide +kernel
theorem dX10_cell_23 : decode cX10_cell 23 = .ok (.imul, 1) := by decide +kernel
theorem dX10_cell_24 : decode cX10_cell 24 = .ok (.iload_n 1, 1) := by decide +kernel
theorem dX10_cell_25 : decode cX10_cell 25 = .ok (.iadd, 1) := by decide +kernel
theorem dX10_cell_26 : decode cX10_cell 26 = .ok (.istore 4, 2) := by decide +kernel
theorem dX10_cell_28 : decode cX10_cell 28 = .ok (.iload_n 3, 1) := by decide +kernel
theorem dX10_cell_29 : decode cX10_cell 29 = .ok (.tableswitch 92 0 5 #[39, 47, 55, 71, 78, 85], 39) := by decide +kernel
theorem dX10_cell_68 : decode cX10_cell 68 = .ok (.aload_n 0, 1) := by decide +kernel
theorem dX10_cell_69 : decode cX10_cell 69 = .ok (.getfield 32, 3) := by decide +kernel
theorem dX10_cell_72 : decode cX10_cell 72 = .ok (.iload 4, 2) := by decide +kernel
theorem dX10_cell_74 : decode cX10_cell 74 = .ok (.iaload, 1) := by decide +kernel
theorem dX10_cell_75 : decode cX10_cell 75 = .ok (.ireturn, 1) := by decide +kernel
theorem dX10_cell_76 : decode cX10_cell 76 = .ok (.aload_n 0, 1) := by decide +kernel
theorem dX10_cell_77 : decode cX10_cell 77 = .ok (.getfield 35, 3) := by decide +kernel
theorem dX10_cell_80 : decode cX10_cell 80 = .ok (.iload 4, 2) := by decide +kernel
theorem dX10_cell_82 : decode cX10_cell 82 = .ok (.iaload, 1) := by decide +kernel
theorem dX10_cell_83 : decode cX10_cell 83 = .ok (.ireturn, 1) := by decide +kernel
theorem dX10_cell_84 : decode cX10_cell 84 = .ok (.aload_n 0, 1) := by decide +kernel
theorem dX10_cell_85 : decode cX10_cell 85 = .ok (.getfield 38, 3) := by decide +kernel
theorem dX10_cell_88 : decode cX10_cell 88 = .ok (.iload 4, 2) := by decide +kernel
theorem dX10_cell_90 : decode cX10_cell 90 = .ok (.baload, 1) := by decide +kernel
theorem dX10_cell_91 : decode cX10_cell 91 = .ok (.ifCond .eq 7, 3) := by decide +kernel
theorem dX10_cell_98 : decode cX10_cell 98 = .ok (.iconst 0, 1) := by decide +kernel
theorem dX10_cell_99 : decode cX10_cell 99 = .ok (.ireturn, 1) := by decide +kernel
theorem dX10_cell_100 : decode cX10_cell 100 = .ok (.aload_n 0, 1) := by decide +kernel
theorem dX10_cell_101 : decode cX10_cell 101 = .ok (.iload 4, 2) := by decide +kernel
theorem kw_5_165 : Cond.methodLink RX10 165 yX10_strain ∈ gw := gw_t5 (List.mem_of_getElem? (i := 165) (by decide +kernel)) (by decide +kernel)
theorem kw_5_167 : Cond.instanceMethod yX10_strain ∈ gw := gw_t5 (List.mem_of_getElem? (i := 167) (by decide +kernel)) (by decide +kernel)
theorem ks_4_0 : Cond.selects RX10 yX10_strain yX10_strain ∈ gw := gw_s (y := yX10_strain) (n := 37) (List.mem_append_right _ (List.mem_append_right _ (List.mem_append_right _ (List.mem_of_getElem? (i := 0) (by decide +kernel)))))
theorem kw_5_168 : Cond.code yX10_strain cX10_strain 6 (some .int) ∈ gw := gw_t5 (List.mem_of_getElem? (i := 168) (by decide +kernel)) (by decide +kernel)
theorem gk_X10_165 : GoodIn gw (wsV RX10 165 RX10 yX10_strain (.code yX10_strain cX10_strain 6 (some .int) :: gw)) ∧ (yX10_strain.cls = RX10 ∧ yX10_strain.cls ≠ "java/lang/invoke/MethodHandle" ∧ yX10_strain.cls ≠ "java/lang/invoke/VarHandle" ∧ (parseMethodDescriptor yX10_strain.desc).map (fun d => d.parameters.length) = some 1) := ⟨gi_V kw_5_165 kw_5_167 ks_4_0 kw_1_11 kw_5_168, by decide +kernel⟩
theorem dX10_cell_103 : decode cX10_cell 103 = .ok (.invokevirtual 165, 3) := by decide +kernel
theorem dX10_cell_106 : decode cX10_cell 106 = .ok (.ireturn, 1) := by decide +kernel
theorem dX10_cell_107 : decode cX10_cell 107 = .ok (.aload_n 0, 1) := by decide +kernel
theorem dX10_cell_108 : decode cX10_cell 108 = .ok (.iload 4, 2) := by decide +kernel
theorem kw_5_169 : Cond.methodLink RX10 168 yX10_bears ∈ gw := gw_t5 (List.mem_of_getElem? (i := 169) (by decide +kernel)) (by decide +kernel)
theorem kw_5_171 : Cond.instanceMethod yX10_bears ∈ gw := gw_t5 (List.mem_of_getElem? (i := 171) (by decide +kernel)) (by decide +kernel)
theorem ks_4_1 : Cond.selects RX10 yX10_bears yX10_bears ∈ gw := gw_s (y := yX10_bears) (n := 37) (List.mem_append_right _ (List.mem_append_right _ (List.mem_append_right _ (List.mem_of_getElem? (i := 1) (by decide +kernel)))))
theorem kw_5_172 : Cond.code yX10_bears cX10_bears 2 (some .int) ∈ gw := gw_t5 (List.mem_of_getElem? (i := 172) (by decide +kernel)) (by decide +kernel)
theorem gk_X10_168 : GoodIn gw (wsV RX10 168 RX10 yX10_bears (.code yX10_bears cX10_bears 2 (some .int) :: gw)) ∧ (yX10_bears.cls = RX10 ∧ yX10_bears.cls ≠ "java/lang/invoke/MethodHandle" ∧ yX10_bears.cls ≠ "java/lang/invoke/VarHandle" ∧ (parseMethodDescriptor yX10_bears.desc).map (fun d => d.parameters.length) = some 1) := ⟨gi_V kw_5_169 kw_5_171 ks_4_1 kw_1_11 kw_5_172, by decide +kernel⟩
theorem dX10_cell_110 : decode cX10_cell 110 = .ok (.invokevirtual 168, 3) := by decide +kernel
theorem dX10_cell_113 : decode cX10_cell 113 = .ok (.ireturn, 1) := by decide +kernel
theorem dX10_cell_114 : decode cX10_cell 114 = .ok (.aload_n 0, 1) := by decide +kernel
theorem dX10_cell_115 : decode cX10_cell 115 = .ok (.iload 4, 2) := by decide +kernel
theorem kw_5_151 : Cond.methodLink RX10 177 yX10_boothAt ∈ gw := gw_t5 (List.mem_of_getElem? (i := 151) (by decide +kernel)) (by decide +kernel)
theorem kw_5_153 : Cond.instanceMethod yX10_boothAt ∈ gw := gw_t5 (List.mem_of_getElem? (i := 153) (by decide +kernel)) (by decide +kernel)
theorem ks_3_14 : Cond.selects RX10 yX10_boothAt yX10_boothAt ∈ gw := gw_s (y := yX10_boothAt) (n := 37) (List.mem_append_right _ (List.mem_append_right _ (List.mem_append_left _ (List.mem_of_getElem? (i := 14) (by decide +kernel)))))
theorem kw_5_154 : Cond.code yX10_boothAt cX10_boothAt 3 (some .int) ∈ gw := gw_t5 (List.mem_of_getElem? (i := 154) (by decide +kernel)) (by decide +kernel)
theorem gk_X10_177 : GoodIn gw (wsV RX10 177 RX10 yX10_boothAt (.code yX10_boothAt cX10_boothAt 3 (some .int) :: gw)) ∧ (yX10_boothAt.cls = RX10 ∧ yX10_boothAt.cls ≠ "java/lang/invoke/MethodHandle" ∧ yX10_boothAt.cls ≠ "java/lang/invoke/VarHandle" ∧ (parseMethodDescriptor yX10_boothAt.desc).map (fun d => d.parameters.length) = some 1) := ⟨gi_V kw_5_151 kw_5_153 ks_3_14 kw_1_11 kw_5_154, by decide +kernel⟩
theorem dX10_cell_117 : decode cX10_cell 117 = .ok (.invokevirtual 177, 3) := by decide +kernel
theorem dX10_cell_120 : decode cX10_cell 120 = .ok (.ireturn, 1) := by decide +kernel
theorem dX10_cell_121 : decode cX10_cell 121 = .ok (.aload_n 0, 1) := by decide +kernel
theorem dX10_cell_122 : decode cX10_cell 122 = .ok (.iconst 2, 1) := by decide +kernel
theorem dX10_cell_123 : decode cX10_cell 123 = .ok (.invokevirtual 224, 3) := by decide +kernel
theorem dX10_cell_126 : decode cX10_cell 126 = .ok (.ireturn, 1) := by decide +kernel
set_option maxHeartbeats 4000000 in
set_option maxRecDepth 100000 in
theorem m_cell (l : Launch) (D : va_G) (h0 : Nat) (m_tape : Nat) (m_rule : Nat) (m_rules : Nat) (m_stair : Nat) (m_low : Nat) (m_high : Nat) (m_crack : Nat) (m_weight : Nat) (m_fire : Nat) (m_crowd : Nat) (m_state : Nat) (m_where : Nat) (m_words : Nat) (m_told : Nat) (m_breaks : Nat) (m_row : Nat) (m_tried : Nat) (m_steps : Nat) (m_paths : Nat) (y_low : ClassId) (y_high : ClassId) (y_crack : ClassId) (y_rule : ClassId) (f_rule : Nat → Int32) (x : Int32) (y : Int32) (w : Int32) : cI l yX10_cell (.code yX10_cell cX10_cell 5 (some .int)) ({ frames := 2, cells := 0, slots := 0, locals := 45 }) D [(y_low, .int), (y_high, .int), (y_crack, .boolean), (y_rule, .int)] [(h0, .inr (9, [.ref m_tape, .int 0, .int 0, .ref m_rule, .ref m_rules, .int 0, .ref m_stair, .int 0, .int 0, .int ((-1)), .int 5, .int 5, .ref m_low, .ref m_high, .ref m_crack, .int 0, .ref m_weight, .ref m_fire, .ref m_crowd, .ref m_state, .ref m_where, .int 0, .int 0, .int 0, .ref m_words, .int 0, .int 0, .int 0, .int 0, .int 0, .int 0, .ref m_told, .ref m_breaks, .ref m_row, .ref m_tried, .ref m_steps, .ref m_paths])), (m_low, .inl (y_low, 100, .inl (fun _ => 0))), (m_high, .inl (y_high, 100, .inl (fun _ => 0))), (m_crack, .inl (y_crack, 100, .inl (fun _ => 0))), (m_rule, .inl (y_rule, 8, .inl f_rule))] xT [.ref h0, .int x, .int y, .int w] (S := Int32) (fun r u => match u with | tv => tv = (if (x < 0 ∨ ¬ x < nI 5 ∨ y < 0 ∨ ¬ y < nI 5) then 1 else if w < 0 ∨ 5 < w then 2 else 0) ∧ (tv = 0 → r = (if w = 5 then (-1) else 0))) (fun u => match u with | tv => []) (fun u => match u with | tv => [(h0, .inr (9, [.ref m_tape, .int 0, .int tv, .ref m_rule, .ref m_rules, .int 0, .ref m_stair, .int 0, .int 0, .int ((-1)), .int 5, .int 5, .ref m_low, .ref m_high, .ref m_crack, .int 0, .ref m_weight, .ref m_fire, .ref m_crowd, .ref m_state, .ref m_where, .int 0, .int 0, .int 0, .ref m_words, .int 0, .int 0, .int 0, .int 0, .int 0, .int 0, .ref m_told, .ref m_breaks, .ref m_row, .ref m_tried, .ref m_steps, .ref m_paths]))]) := by
  intro sz
  refine Met.ofW (cc := cX10_cell) (maxL := 5) (ret := (some .int)) (by decide) rfl ?_
  intro p e s m args below meth c s₁ B hml hv
  obtain ⟨rfl, hsz, hP, hK, hD0, hX⟩ := hv
  have hx := B.exec
  have hb := B.bytes
  have hr := B.returns
  have hts0 := atoms_spec (ws := .code yX10_cell cX10_cell 5 (some .int) :: gw) B.pre
  have hts := fun (w : Cond) (h : w ∈ gw) => hts0 w (List.mem_cons_of_mem _ h)
  have hown : s.vm.findClass RX10 = some m.cls := findClass_of_methodNamed B.named
  have hlocks := B.notSynchronized
  have F : mFix p s m _ c cX10_cell 5 RX10 := ⟨hx, hb, hml, hown, hts⟩
  subst hsz
  have hD := hD0.self (sz := s.heap.size)
  generalize hAe : va_A [(h0, .inr (9, [.ref m_tape, .int 0, .int 0, .ref m_rule, .ref m_rules, .int 0, .ref m_stair, .int 0, .int 0, .int ((-1)), .int 5, .int 5, .ref m_low, .ref m_high, .ref m_crack, .int 0, .ref m_weight, .ref m_fire, .ref m_crowd, .ref m_state, .ref m_where, .int 0, .int 0, .int 0, .ref m_words, .int 0, .int 0, .int 0, .int 0, .int 0, .int 0, .ref m_told, .ref m_breaks, .ref m_row, .ref m_tried, .ref m_steps, .ref m_paths])), (m_low, .inl (y_low, 100, .inl (fun _ => 0))), (m_high, .inl (y_high, 100, .inl (fun _ => 0))), (m_crack, .inl (y_crack, 100, .inl (fun _ => 0))), (m_rule, .inl (y_rule, 8, .inl f_rule))] s.heap.size = A at hD hX ⊢
  have hA : ∀ q : Nat, s.heap.size ≤ q → A q := fun q h => by rw [← hAe]; exact Or.inr h
  have hS : va_S A s.heap s.heap [] := va_S.rf
  have hl := lv_entry ([.ref h0, .int x, .int y, .int w]) (n := 5) (Nat.le_of_ble_eq_true rfl)
  rw [lg_entry_eq]
  generalize (lg_sl ([.ref h0, .int x, .int y, .int w]) ++ List.replicate (5 - (lg_sl ([.ref h0, .int x, .int y, .int w])).length) Slot.unset).toArray = ls at hl ⊢
  have hl : lv_has ls 5 [(0, .ref h0), (1, .int x), (2, .int y), (3, .int w)] := hl
  have hP : va_P D vwCl [(h0, .inr (9, [.ref m_tape, .int 0, .int 0, .ref m_rule, .ref m_rules, .int 0, .ref m_stair, .int 0, .int 0, .int ((-1)), .int 5, .int 5, .ref m_low, .ref m_high, .ref m_crack, .int 0, .ref m_weight, .ref m_fire, .ref m_crowd, .ref m_state, .ref m_where, .int 0, .int 0, .int 0, .ref m_words, .int 0, .int 0, .int 0, .int 0, .int 0, .int 0, .ref m_told, .ref m_breaks, .ref m_row, .ref m_tried, .ref m_steps, .ref m_paths])), (m_low, .inl (y_low, 100, .inl (fun _ => 0))), (m_high, .inl (y_high, 100, .inl (fun _ => 0))), (m_crack, .inl (y_crack, 100, .inl (fun _ => 0))), (m_rule, .inl (y_rule, 8, .inl f_rule))] s.heap := hP
  refine lv_aload_n hx hb dX10_cell_0 rfl (lv_at hl 0 rfl) ?_
  refine lv_iconst (v := 0) hx hb dX10_cell_1 (by decide) ?_
  refine va_put (D := D) (ci := 9) (v := .int 0) (ty := .int) (C := RX10) (T := TX10) (N := 37) hx hb hts inG_X10 tyX10 tyX10_ok nmX10 hown hK hP hD hS 0 rfl rfl 2 (by decide) (hts _ kw_4_197) (fun _ h9 => h9) rfl (by decide +kernel) rfl rfl (Nat.le_of_ble_eq_true rfl) dX10_cell_2 (fun H locs hP hD hS => ?_)
  have hP : va_P D vwCl [(h0, .inr (9, [.ref m_tape, .int 0, .int 0, .ref m_rule, .ref m_rules, .int 0, .ref m_stair, .int 0, .int 0, .int ((-1)), .int 5, .int 5, .ref m_low, .ref m_high, .ref m_crack, .int 0, .ref m_weight, .ref m_fire, .ref m_crowd, .ref m_state, .ref m_where, .int 0, .int 0, .int 0, .ref m_words, .int 0, .int 0, .int 0, .int 0, .int 0, .int 0, .ref m_told, .ref m_breaks, .ref m_row, .ref m_tried, .ref m_steps, .ref m_paths])), (m_low, .inl (y_low, 100, .inl (fun _ => 0))), (m_high, .inl (y_high, 100, .inl (fun _ => 0))), (m_crack, .inl (y_crack, 100, .inl (fun _ => 0))), (m_rule, .inl (y_rule, 8, .inl f_rule))] H := hP
  have hD : va_D A [(h0, .inr (9, [.ref m_tape, .int 0, .int 0, .ref m_rule, .ref m_rules, .int 0, .ref m_stair, .int 0, .int 0, .int ((-1)), .int 5, .int 5, .ref m_low, .ref m_high, .ref m_crack, .int 0, .ref m_weight, .ref m_fire, .ref m_crowd, .ref m_state, .ref m_where, .int 0, .int 0, .int 0, .ref m_words, .int 0, .int 0, .int 0, .int 0, .int 0, .int 0, .ref m_told, .ref m_breaks, .ref m_row, .ref m_tried, .ref m_steps, .ref m_paths])), (m_low, .inl (y_low, 100, .inl (fun _ => 0))), (m_high, .inl (y_high, 100, .inl (fun _ => 0))), (m_crack, .inl (y_crack, 100, .inl (fun _ => 0))), (m_rule, .inl (y_rule, 8, .inl f_rule))] := hD
  refine lv_aload_n hx hb dX10_cell_5 rfl (lv_at hl 0 rfl) ?_
  refine lv_iload_n hx hb dX10_cell_6 rfl (lv_at hl 1 rfl) ?_
  refine lv_iload_n hx hb dX10_cell_7 rfl (lv_at hl 2 rfl) ?_
  refine mc_Vi (rest := []) (wr := [(m_low, .inl (y_low, 100, .inl (fun _ => 0))), (m_high, .inl (y_high, 100, .inl (fun _ => 0))), (m_crack, .inl (y_crack, 100, .inl (fun _ => 0))), (m_rule, .inl (y_rule, 8, .inl f_rule))]) F hK hP hD hS hA (m_isCell l D h0 m_tape m_rule m_rules m_stair m_low m_high m_crack m_weight m_fire m_crowd m_state m_where m_words m_told m_breaks m_row m_tried m_steps m_paths 0 0 0 0 0 ((-1)) 0 0 0 0 0 0 0 0 0 0 5 5 x y (by omega) (by omega)) ⟨gk_X10_155.1, gk_X10_155.2, Nat.le_of_ble_eq_true rfl, Nat.le_of_ble_eq_true rfl⟩ [0] [1, 2, 3, 4] [] ⟨rfl, rfl, rfl, rfl, by decide⟩ rfl xT_move (fun _ _ _ => trivial) 0 rfl rfl rfl hl.1 rfl (Nat.le_of_ble_eq_true rfl) dX10_cell_8 ⟨Nat.le_of_ble_eq_true rfl, Nat.le_of_ble_eq_true rfl⟩ (fun r_1 _ H locs hw hK1 hP hD hS => ?_)
  have hP : va_P D vwCl [(m_low, .inl (y_low, 100, .inl (fun _ => 0))), (m_high, .inl (y_high, 100, .inl (fun _ => 0))), (m_crack, .inl (y_crack, 100, .inl (fun _ => 0))), (m_rule, .inl (y_rule, 8, .inl f_rule)), (h0, .inr (9, [.ref m_tape, .int 0, .int 0, .ref m_rule, .ref m_rules, .int 0, .ref m_stair, .int 0, .int 0, .int (((-1))), .int 5, .int 5, .ref m_low, .ref m_high, .ref m_crack, .int 0, .ref m_weight, .ref m_fire, .ref m_crowd, .ref m_state, .ref m_where, .int 0, .int 0, .int 0, .ref m_words, .int 0, .int 0, .int 0, .int 0, .int 0, .int 0, .ref m_told, .ref m_breaks, .ref m_row, .ref m_tried, .ref m_steps, .ref m_paths]))] H := hP
  have hD : va_D A [(m_low, .inl (y_low, 100, .inl (fun _ => 0))), (m_high, .inl (y_high, 100, .inl (fun _ => 0))), (m_crack, .inl (y_crack, 100, .inl (fun _ => 0))), (m_rule, .inl (y_rule, 8, .inl f_rule)), (h0, .inr (9, [.ref m_tape, .int 0, .int 0, .ref m_rule, .ref m_rules, .int 0, .ref m_stair, .int 0, .int 0, .int (((-1))), .int 5, .int 5, .ref m_low, .ref m_high, .ref m_crack, .int 0, .ref m_weight, .ref m_fire, .ref m_crowd, .ref m_state, .ref m_where, .int 0, .int 0, .int 0, .ref m_words, .int 0, .int 0, .int 0, .int 0, .int 0, .int 0, .ref m_told, .ref m_breaks, .ref m_row, .ref m_tried, .ref m_steps, .ref m_paths]))] := hD
  have hw_2 : r_1 = (if (x < 0 ∨ ¬ x < nI 5 ∨ y < 0 ∨ ¬ y < nI 5) then 0 else 1) := hw
  by_cases ho_3 : (x < 0 ∨ ¬ x < nI 5 ∨ y < 0 ∨ ¬ y < nI 5)
  · skip
    obtain rfl : r_1 = 0 := by rw [hw_2, if_pos ho_3]
    refine lv_if_ne (tgt := 20) hx hb dX10_cell_11 (by decide) (fun c_4 => absurd c_4 (by decide)) (fun c_4 => ?_)
    refine lv_aload_n hx hb dX10_cell_14 rfl (lv_at hl 0 rfl) ?_
    refine lv_iconst (v := 1) hx hb dX10_cell_15 (by decide) ?_
    refine mc_Vi (rest := []) (wr := [(m_low, .inl (y_low, 100, .inl (fun _ => 0))), (m_high, .inl (y_high, 100, .inl (fun _ => 0))), (m_crack, .inl (y_crack, 100, .inl (fun _ => 0))), (m_rule, .inl (y_rule, 8, .inl f_rule))]) F hK hP hD hS hA (m_fails l D h0 m_tape m_rule m_rules m_stair m_low m_high m_crack m_weight m_fire m_crowd m_state m_where m_words m_told m_breaks m_row m_tried m_steps m_paths 0 0 0 0 0 (((-1))) 5 5 0 0 0 0 0 0 0 0 0 0 1 ) ⟨gk_X10_224.1, gk_X10_224.2, Nat.le_of_ble_eq_true rfl, Nat.le_of_ble_eq_true rfl⟩ [4] [0, 1, 2, 3] [] ⟨rfl, rfl, rfl, rfl, by decide⟩ rfl xT_move (fun _ _ _ => trivial) 4 rfl rfl rfl hl.1 rfl (Nat.le_of_ble_eq_true rfl) dX10_cell_16 ⟨Nat.le_of_ble_eq_true rfl, Nat.le_of_ble_eq_true rfl⟩ (fun r_5 _ H locs hw hK1 hP hD hS => ?_)
    have hP : va_P D vwCl [(m_low, .inl (y_low, 100, .inl (fun _ => 0))), (m_high, .inl (y_high, 100, .inl (fun _ => 0))), (m_crack, .inl (y_crack, 100, .inl (fun _ => 0))), (m_rule, .inl (y_rule, 8, .inl f_rule)), (h0, .inr (9, [.ref m_tape, .int 0, .int 1, .ref m_rule, .ref m_rules, .int 0, .ref m_stair, .int 0, .int 0, .int ((((-1)))), .int 5, .int 5, .ref m_low, .ref m_high, .ref m_crack, .int 0, .ref m_weight, .ref m_fire, .ref m_crowd, .ref m_state, .ref m_where, .int 0, .int 0, .int 0, .ref m_words, .int 0, .int 0, .int 0, .int 0, .int 0, .int 0, .ref m_told, .ref m_breaks, .ref m_row, .ref m_tried, .ref m_steps, .ref m_paths]))] H := hP
    have hD : va_D A [(m_low, .inl (y_low, 100, .inl (fun _ => 0))), (m_high, .inl (y_high, 100, .inl (fun _ => 0))), (m_crack, .inl (y_crack, 100, .inl (fun _ => 0))), (m_rule, .inl (y_rule, 8, .inl f_rule)), (h0, .inr (9, [.ref m_tape, .int 0, .int 1, .ref m_rule, .ref m_rules, .int 0, .ref m_stair, .int 0, .int 0, .int ((((-1)))), .int 5, .int 5, .ref m_low, .ref m_high, .ref m_crack, .int 0, .ref m_weight, .ref m_fire, .ref m_crowd, .ref m_state, .ref m_where, .int 0, .int 0, .int 0, .ref m_words, .int 0, .int 0, .int 0, .int 0, .int 0, .int 0, .ref m_told, .ref m_breaks, .ref m_row, .ref m_tried, .ref m_steps, .ref m_paths]))] := hD
    have hw_6 : r_5 = 0 := hw
    obtain rfl : r_5 = 0 := hw_6
    have hP9 := hP.sub (ws' := [(h0, .inr (9, [.ref m_tape, .int 0, .int 1, .ref m_rule, .ref m_rules, .int 0, .ref m_stair, .int 0, .int 0, .int ((-1)), .int 5, .int 5, .ref m_low, .ref m_high, .ref m_crack, .int 0, .ref m_weight, .ref m_fire, .ref m_crowd, .ref m_state, .ref m_where, .int 0, .int 0, .int 0, .ref m_words, .int 0, .int 0, .int 0, .int 0, .int 0, .int 0, .ref m_told, .ref m_breaks, .ref m_row, .ref m_tried, .ref m_steps, .ref m_paths]))]) [4] rfl
    have hD9 := hD.sub (ws' := [(h0, .inr (9, [.ref m_tape, .int 0, .int 1, .ref m_rule, .ref m_rules, .int 0, .ref m_stair, .int 0, .int 0, .int ((-1)), .int 5, .int 5, .ref m_low, .ref m_high, .ref m_crack, .int 0, .ref m_weight, .ref m_fire, .ref m_crowd, .ref m_state, .ref m_where, .int 0, .int 0, .int 0, .ref m_words, .int 0, .int 0, .int 0, .int 0, .int 0, .int 0, .ref m_told, .ref m_breaks, .ref m_row, .ref m_tried, .ref m_steps, .ref m_paths]))]) [4] (by decide) rfl
    have hK9 := hK.sub (tys' := []) [] rfl
    refine W.widen (k := 0) (n := 0) (by decide) (by decide) ?_
    exact W.iret (v := 0) hx hb hr (fun t ht hW => ⟨⟨0, 1, rfl, ⟨by rw [if_pos ho_3], fun h => absurd h (by decide)⟩, by rw [ht]; exact hP9, va_K.moved hW.alike hK9, hD9⟩, hS.F ht⟩) hS.2.2 dX10_cell_19
  · skip
    obtain rfl : r_1 = 1 := by rw [hw_2, if_neg ho_3]
    obtain ⟨i_7, hi_7, ei_7⟩ : ∃ j : Nat, j < 5 ∧ x = nI j := n_lt (fun q => ho_3 (Or.inl q)) (fun q => ho_3 (Or.inr (Or.inl (Int32.not_lt.mpr q)))) (by omega)
    obtain ⟨j_8, hj_8, ej_8⟩ : ∃ j : Nat, j < 5 ∧ y = nI j := n_lt (fun q => ho_3 (Or.inr (Or.inr (Or.inl q)))) (fun q => ho_3 (Or.inr (Or.inr (Or.inr (Int32.not_lt.mpr q))))) (by omega)
    subst ei_7
    subst ej_8
    have hl : lv_has ls 5 [(0, .ref h0), (1, .int (nI i_7)), (2, .int (nI j_8)), (3, .int w)] := hl
    refine lv_if_ne (tgt := 20) hx hb dX10_cell_11 (by decide) (fun c_9 => ?_) (fun c_9 => absurd c_9 (by decide))
    refine lv_bipush (v := 10) hx hb dX10_cell_20 (by decide) ?_
    refine lv_iload_n hx hb dX10_cell_22 rfl (lv_at hl 2 rfl) ?_
    refine lv_imul hx hb dX10_cell_23 ?_
    refine lv_topi (fun z_10 ez_10 => ?_)
    obtain rfl : z_10 = nI (10 * j_8) := ez_10.trans (pk_mul 10 j_8)
    refine lv_iload_n hx hb dX10_cell_24 rfl (lv_at hl 1 rfl) ?_
    refine lv_iadd hx hb dX10_cell_25 ?_
    refine lv_topi (fun z_11 ez_11 => ?_)
    obtain rfl : z_11 = nI (10 * j_8 + i_7) := ez_11.trans (nI_add (10 * j_8) i_7)
    refine lv_istore (lv' := [(4, .int (nI (10 * j_8 + i_7))), (0, .ref h0), (1, .int (nI i_7)), (2, .int (nI j_8)), (3, .int w)]) hx hb dX10_cell_26 hl (by decide) rfl (fun ls hl => ?_)
    refine lv_iload_n hx hb dX10_cell_28 rfl (lv_at hl 4 rfl) ?_
    by_cases w_12_0 : w = 0
    · skip
      subst w_12_0
      refine lv_tableIn (tgt := 68) hx hb dX10_cell_29 (by decide) (by decide) rfl (by decide) ?_
      have hl : lv_has ls 5 [(4, .int (nI (10 * j_8 + i_7))), (0, .ref h0), (1, .int (nI i_7)), (2, .int (nI j_8)), (3, .int 0)] := hl
      refine lv_aload_n hx hb dX10_cell_68 rfl (lv_at hl 1 rfl) ?_
      refine va_get (D := D) (ci := 9) (v := .ref m_low) (C := RX10) (T := TX10) (N := 37) hx hb hts inG_X10 hown hK hP 4 rfl rfl 12 (by decide) (hts _ kw_4_207) (fun _ h9 => h9) rfl dX10_cell_69 ?_
      refine lv_iload hx hb dX10_cell_72 (lv_at hl 0 rfl) ?_
      refine m_iald hx hb hK hP 0 0 rfl rfl (10 * j_8 + i_7) rfl (by omega) (by decide) dX10_cell_74 ?_
      have hP9 := hP.sub (ws' := [(h0, .inr (9, [.ref m_tape, .int 0, .int 0, .ref m_rule, .ref m_rules, .int 0, .ref m_stair, .int 0, .int 0, .int ((-1)), .int 5, .int 5, .ref m_low, .ref m_high, .ref m_crack, .int 0, .ref m_weight, .ref m_fire, .ref m_crowd, .ref m_state, .ref m_where, .int 0, .int 0, .int 0, .ref m_words, .int 0, .int 0, .int 0, .int 0, .int 0, .int 0, .ref m_told, .ref m_breaks, .ref m_row, .ref m_tried, .ref m_steps, .ref m_paths]))]) [4] rfl
      have hD9 := hD.sub (ws' := [(h0, .inr (9, [.ref m_tape, .int 0, .int 0, .ref m_rule, .ref m_rules, .int 0, .ref m_stair, .int 0, .int 0, .int ((-1)), .int 5, .int 5, .ref m_low, .ref m_high, .ref m_crack, .int 0, .ref m_weight, .ref m_fire, .ref m_crowd, .ref m_state, .ref m_where, .int 0, .int 0, .int 0, .ref m_words, .int 0, .int 0, .int 0, .int 0, .int 0, .int 0, .ref m_told, .ref m_breaks, .ref m_row, .ref m_tried, .ref m_steps, .ref m_paths]))]) [4] (by decide) rfl
      have hK9 := hK.sub (tys' := []) [] rfl
      refine W.widen (k := 0) (n := 0) (by decide) (by decide) ?_
      exact W.iret (v := 0) hx hb hr (fun t ht hW => ⟨⟨0, 0, rfl, ⟨by rw [if_neg ho_3]; decide, fun _ => by decide⟩, by rw [ht]; exact hP9, va_K.moved hW.alike hK9, hD9⟩, hS.F ht⟩) hS.2.2 dX10_cell_75
    by_cases w_12_1 : w = 1
    · skip
      subst w_12_1
      refine lv_tableIn (tgt := 76) hx hb dX10_cell_29 (by decide) (by decide) rfl (by decide) ?_
      have hl : lv_has ls 5 [(4, .int (nI (10 * j_8 + i_7))), (0, .ref h0), (1, .int (nI i_7)), (2, .int (nI j_8)), (3, .int 1)] := hl
      refine lv_aload_n hx hb dX10_cell_76 rfl (lv_at hl 1 rfl) ?_
      refine va_get (D := D) (ci := 9) (v := .ref m_high) (C := RX10) (T := TX10) (N := 37) hx hb hts inG_X10 hown hK hP 4 rfl rfl 13 (by decide) (hts _ kw_4_208) (fun _ h9 => h9) rfl dX10_cell_77 ?_
      refine lv_iload hx hb dX10_cell_80 (lv_at hl 0 rfl) ?_
      refine m_iald hx hb hK hP 1 1 rfl rfl (10 * j_8 + i_7) rfl (by omega) (by decide) dX10_cell_82 ?_
      have hP9 := hP.sub (ws' := [(h0, .inr (9, [.ref m_tape, .int 0, .int 0, .ref m_rule, .ref m_rules, .int 0, .ref m_stair, .int 0, .int 0, .int ((-1)), .int 5, .int 5, .ref m_low, .ref m_high, .ref m_crack, .int 0, .ref m_weight, .ref m_fire, .ref m_crowd, .ref m_state, .ref m_where, .int 0, .int 0, .int 0, .ref m_words, .int 0, .int 0, .int 0, .int 0, .int 0, .int 0, .ref m_told, .ref m_breaks, .ref m_row, .ref m_tried, .ref m_steps, .ref m_paths]))]) [4] rfl
      have hD9 := hD.sub (ws' := [(h0, .inr (9, [.ref m_tape, .int 0, .int 0, .ref m_rule, .ref m_rules, .int 0, .ref m_stair, .int 0, .int 0, .int ((-1)), .int 5, .int 5, .ref m_low, .ref m_high, .ref m_crack, .int 0, .ref m_weight, .ref m_fire, .ref m_crowd, .ref m_state, .ref m_where, .int 0, .int 0, .int 0, .ref m_words, .int 0, .int 0, .int 0, .int 0, .int 0, .int 0, .ref m_told, .ref m_breaks, .ref m_row, .ref m_tried, .ref m_steps, .ref m_paths]))]) [4] (by decide) rfl
      have hK9 := hK.sub (tys' := []) [] rfl
      refine W.widen (k := 0) (n := 0) (by decide) (by decide) ?_
      exact W.iret (v := 0) hx hb hr (fun t ht hW => ⟨⟨0, 0, rfl, ⟨by rw [if_neg ho_3]; decide, fun _ => by decide⟩, by rw [ht]; exact hP9, va_K.moved hW.alike hK9, hD9⟩, hS.F ht⟩) hS.2.2 dX10_cell_83
    by_cases w_12_2 : w = 2
    · skip
      subst w_12_2
      refine lv_tableIn (tgt := 84) hx hb dX10_cell_29 (by decide) (by decide) rfl (by decide) ?_
      have hl : lv_has ls 5 [(4, .int (nI (10 * j_8 + i_7))), (0, .ref h0), (1, .int (nI i_7)), (2, .int (nI j_8)), (3, .int 2)] := hl
      refine lv_aload_n hx hb dX10_cell_84 rfl (lv_at hl 1 rfl) ?_
      refine va_get (D := D) (ci := 9) (v := .ref m_crack) (C := RX10) (T := TX10) (N := 37) hx hb hts inG_X10 hown hK hP 4 rfl rfl 14 (by decide) (hts _ kw_4_209) (fun _ h9 => h9) rfl dX10_cell_85 ?_
      refine lv_iload hx hb dX10_cell_88 (lv_at hl 0 rfl) ?_
      refine m_zald hx hb hK hP 2 2 rfl rfl (10 * j_8 + i_7) rfl (by omega) (by decide) dX10_cell_90 ?_
      refine lv_if_eq (tgt := 98) hx hb dX10_cell_91 (by decide) (fun c_13 => ?_) (fun c_13 => absurd c_13 (by decide))
      refine lv_iconst (v := 0) hx hb dX10_cell_98 (by decide) ?_
      have hP9 := hP.sub (ws' := [(h0, .inr (9, [.ref m_tape, .int 0, .int 0, .ref m_rule, .ref m_rules, .int 0, .ref m_stair, .int 0, .int 0, .int ((-1)), .int 5, .int 5, .ref m_low, .ref m_high, .ref m_crack, .int 0, .ref m_weight, .ref m_fire, .ref m_crowd, .ref m_state, .ref m_where, .int 0, .int 0, .int 0, .ref m_words, .int 0, .int 0, .int 0, .int 0, .int 0, .int 0, .ref m_told, .ref m_breaks, .ref m_row, .ref m_tried, .ref m_steps, .ref m_paths]))]) [4] rfl
      have hD9 := hD.sub (ws' := [(h0, .inr (9, [.ref m_tape, .int 0, .int 0, .ref m_rule, .ref m_rules, .int 0, .ref m_stair, .int 0, .int 0, .int ((-1)), .int 5, .int 5, .ref m_low, .ref m_high, .ref m_crack, .int 0, .ref m_weight, .ref m_fire, .ref m_crowd, .ref m_state, .ref m_where, .int 0, .int 0, .int 0, .ref m_words, .int 0, .int 0, .int 0, .int 0, .int 0, .int 0, .ref m_told, .ref m_breaks, .ref m_row, .ref m_tried, .ref m_steps, .ref m_paths]))]) [4] (by decide) rfl
      have hK9 := hK.sub (tys' := []) [] rfl
      refine W.widen (k := 0) (n := 0) (by decide) (by decide) ?_
      exact W.iret (v := 0) hx hb hr (fun t ht hW => ⟨⟨0, 0, rfl, ⟨by rw [if_neg ho_3]; decide, fun _ => by decide⟩, by rw [ht]; exact hP9, va_K.moved hW.alike hK9, hD9⟩, hS.F ht⟩) hS.2.2 dX10_cell_99
    by_cases w_12_3 : w = 3
    · skip
      subst w_12_3
      refine lv_tableIn (tgt := 100) hx hb dX10_cell_29 (by decide) (by decide) rfl (by decide) ?_
      have hl : lv_has ls 5 [(4, .int (nI (10 * j_8 + i_7))), (0, .ref h0), (1, .int (nI i_7)), (2, .int (nI j_8)), (3, .int 3)] := hl
      refine lv_aload_n hx hb dX10_cell_100 rfl (lv_at hl 1 rfl) ?_
      refine lv_iload hx hb dX10_cell_101 (lv_at hl 0 rfl) ?_
      refine mc_Vi (rest := []) (wr := [(m_low, .inl (y_low, 100, .inl (fun _ => 0))), (m_high, .inl (y_high, 100, .inl (fun _ => 0))), (m_crack, .inl (y_crack, 100, .inl (fun _ => 0))), (m_rule, .inl (y_rule, 8, .inl f_rule))]) F hK hP hD hS hA (m_strain0 l D h0 m_tape m_rule m_rules m_stair m_low m_high m_crack m_weight m_fire m_crowd m_state m_where m_words m_told m_breaks m_row m_tried m_steps m_paths 0 0 0 0 0 (((-1))) 5 5 0 0 0 0 0 0 0 0 0 (nI (10 * j_8 + i_7)) ) ⟨gk_X10_165.1, gk_X10_165.2, Nat.le_of_ble_eq_true rfl, Nat.le_of_ble_eq_true rfl⟩ [4] [0, 1, 2, 3] [] ⟨rfl, rfl, rfl, rfl, by decide⟩ rfl xT_move (fun _ _ _ => trivial) 4 rfl rfl rfl hl.1 rfl (Nat.le_of_ble_eq_true rfl) dX10_cell_103 ⟨Nat.le_of_ble_eq_true rfl, Nat.le_of_ble_eq_true rfl⟩ (fun r_14 _ H locs hw hK1 hP hD hS => ?_)
      have hP : va_P D vwCl [(m_low, .inl (y_low, 100, .inl (fun _ => 0))), (m_high, .inl (y_high, 100, .inl (fun _ => 0))), (m_crack, .inl (y_crack, 100, .inl (fun _ => 0))), (m_rule, .inl (y_rule, 8, .inl f_rule)), (h0, .inr (9, [.ref m_tape, .int 0, .int 0, .ref m_rule, .ref m_rules, .int 0, .ref m_stair, .int 0, .int 0, .int ((((-1)))), .int 5, .int 5, .ref m_low, .ref m_high, .ref m_crack, .int 0, .ref m_weight, .ref m_fire, .ref m_crowd, .ref m_state, .ref m_where, .int 0, .int 0, .int 0, .ref m_words, .int 0, .int 0, .int 0, .int 0, .int 0, .int 0, .ref m_told, .ref m_breaks, .ref m_row, .ref m_tried, .ref m_steps, .ref m_paths]))] H := hP
      have hD : va_D A [(m_low, .inl (y_low, 100, .inl (fun _ => 0))), (m_high, .inl (y_high, 100, .inl (fun _ => 0))), (m_crack, .inl (y_crack, 100, .inl (fun _ => 0))), (m_rule, .inl (y_rule, 8, .inl f_rule)), (h0, .inr (9, [.ref m_tape, .int 0, .int 0, .ref m_rule, .ref m_rules, .int 0, .ref m_stair, .int 0, .int 0, .int ((((-1)))), .int 5, .int 5, .ref m_low, .ref m_high, .ref m_crack, .int 0, .ref m_weight, .ref m_fire, .ref m_crowd, .ref m_state, .ref m_where, .int 0, .int 0, .int 0, .ref m_words, .int 0, .int 0, .int 0, .int 0, .int 0, .int 0, .ref m_told, .ref m_breaks, .ref m_row, .ref m_tried, .ref m_steps, .ref m_paths]))] := hD
      have hw_15 : r_14 = 0 := hw
      obtain rfl : r_14 = 0 := hw_15
      have hP9 := hP.sub (ws' := [(h0, .inr (9, [.ref m_tape, .int 0, .int 0, .ref m_rule, .ref m_rules, .int 0, .ref m_stair, .int 0, .int 0, .int ((-1)), .int 5, .int 5, .ref m_low, .ref m_high, .ref m_crack, .int 0, .ref m_weight, .ref m_fire, .ref m_crowd, .ref m_state, .ref m_where, .int 0, .int 0, .int 0, .ref m_words, .int 0, .int 0, .int 0, .int 0, .int 0, .int 0, .ref m_told, .ref m_breaks, .ref m_row, .ref m_tried, .ref m_steps, .ref m_paths]))]) [4] rfl
      have hD9 := hD.sub (ws' := [(h0, .inr (9, [.ref m_tape, .int 0, .int 0, .ref m_rule, .ref m_rules, .int 0, .ref m_stair, .int 0, .int 0, .int ((-1)), .int 5, .int 5, .ref m_low, .ref m_high, .ref m_crack, .int 0, .ref m_weight, .ref m_fire, .ref m_crowd, .ref m_state, .ref m_where, .int 0, .int 0, .int 0, .ref m_words, .int 0, .int 0, .int 0, .int 0, .int 0, .int 0, .ref m_told, .ref m_breaks, .ref m_row, .ref m_tried, .ref m_steps, .ref m_paths]))]) [4] (by decide) rfl
      have hK9 := hK.sub (tys' := []) [] rfl
      refine W.widen (k := 0) (n := 0) (by decide) (by decide) ?_
      exact W.iret (v := 0) hx hb hr (fun t ht hW => ⟨⟨0, 0, rfl, ⟨by rw [if_neg ho_3]; decide, fun _ => by decide⟩, by rw [ht]; exact hP9, va_K.moved hW.alike hK9, hD9⟩, hS.F ht⟩) hS.2.2 dX10_cell_106
    by_cases w_12_4 : w = 4
    · skip
      subst w_12_4
      refine lv_tableIn (tgt := 107) hx hb dX10_cell_29 (by decide) (by decide) rfl (by decide) ?_
      have hl : lv_has ls 5 [(4, .int (nI (10 * j_8 + i_7))), (0, .ref h0), (1, .int (nI i_7)), (2, .int (nI j_8)), (3, .int 4)] := hl
      refine lv_aload_n hx hb dX10_cell_107 rfl (lv_at hl 1 rfl) ?_
      refine lv_iload hx hb dX10_cell_108 (lv_at hl 0 rfl) ?_
      refine mc_Vi (rest := []) (wr := [(m_high, .inl (y_high, 100, .inl (fun _ => 0))), (m_crack, .inl (y_crack, 100, .inl (fun _ => 0)))]) F hK hP hD hS hA (m_bears l D h0 m_tape m_rule m_rules m_stair m_low m_high m_crack m_weight m_fire m_crowd m_state m_where m_words m_told m_breaks m_row m_tried m_steps m_paths y_low y_rule (fun _ => 0) f_rule 0 0 0 0 0 (((-1))) 5 5 0 0 0 0 0 0 0 0 0 0 (10 * j_8 + i_7) (by omega)) ⟨gk_X10_168.1, gk_X10_168.2, Nat.le_of_ble_eq_true rfl, Nat.le_of_ble_eq_true rfl⟩ [4, 0, 3] [1, 2] [0, 3] ⟨rfl, rfl, rfl, rfl, by decide⟩ rfl xT_move (fun _ _ _ => trivial) 4 rfl rfl rfl hl.1 rfl (Nat.le_of_ble_eq_true rfl) dX10_cell_110 ⟨Nat.le_of_ble_eq_true rfl, Nat.le_of_ble_eq_true rfl⟩ (fun r_16 _ H locs hw hK1 hP hD hS => ?_)
      have hP : va_P D vwCl [(m_high, .inl (y_high, 100, .inl (fun _ => 0))), (m_crack, .inl (y_crack, 100, .inl (fun _ => 0))), (h0, .inr (9, [.ref m_tape, .int 0, .int 0, .ref m_rule, .ref m_rules, .int 0, .ref m_stair, .int 0, .int 0, .int ((((-1)))), .int 5, .int 5, .ref m_low, .ref m_high, .ref m_crack, .int 0, .ref m_weight, .ref m_fire, .ref m_crowd, .ref m_state, .ref m_where, .int 0, .int 0, .int 0, .ref m_words, .int 0, .int 0, .int 0, .int 0, .int 0, .int 0, .ref m_told, .ref m_breaks, .ref m_row, .ref m_tried, .ref m_steps, .ref m_paths])), (m_low, .inl (y_low, 100, .inl ((fun _ => 0)))), (m_rule, .inl (y_rule, 8, .inl f_rule))] H := hP
      have hD : va_D A [(m_high, .inl (y_high, 100, .inl (fun _ => 0))), (m_crack, .inl (y_crack, 100, .inl (fun _ => 0))), (h0, .inr (9, [.ref m_tape, .int 0, .int 0, .ref m_rule, .ref m_rules, .int 0, .ref m_stair, .int 0, .int 0, .int ((((-1)))), .int 5, .int 5, .ref m_low, .ref m_high, .ref m_crack, .int 0, .ref m_weight, .ref m_fire, .ref m_crowd, .ref m_state, .ref m_where, .int 0, .int 0, .int 0, .ref m_words, .int 0, .int 0, .int 0, .int 0, .int 0, .int 0, .ref m_told, .ref m_breaks, .ref m_row, .ref m_tried, .ref m_steps, .ref m_paths])), (m_low, .inl (y_low, 100, .inl ((fun _ => 0)))), (m_rule, .inl (y_rule, 8, .inl f_rule))] := hD
      have hw_17 : r_16 = (fun _ => 0) (10 * j_8 + i_7) * (fun _ => 0) (10 * j_8 + i_7) * f_rule 0 / 100 := hw
      have hP9 := hP.sub (ws' := [(h0, .inr (9, [.ref m_tape, .int 0, .int 0, .ref m_rule, .ref m_rules, .int 0, .ref m_stair, .int 0, .int 0, .int ((-1)), .int 5, .int 5, .ref m_low, .ref m_high, .ref m_crack, .int 0, .ref m_weight, .ref m_fire, .ref m_crowd, .ref m_state, .ref m_where, .int 0, .int 0, .int 0, .ref m_words, .int 0, .int 0, .int 0, .int 0, .int 0, .int 0, .ref m_told, .ref m_breaks, .ref m_row, .ref m_tried, .ref m_steps, .ref m_paths]))]) [2] rfl
      have hD9 := hD.sub (ws' := [(h0, .inr (9, [.ref m_tape, .int 0, .int 0, .ref m_rule, .ref m_rules, .int 0, .ref m_stair, .int 0, .int 0, .int ((-1)), .int 5, .int 5, .ref m_low, .ref m_high, .ref m_crack, .int 0, .ref m_weight, .ref m_fire, .ref m_crowd, .ref m_state, .ref m_where, .int 0, .int 0, .int 0, .ref m_words, .int 0, .int 0, .int 0, .int 0, .int 0, .int 0, .ref m_told, .ref m_breaks, .ref m_row, .ref m_tried, .ref m_steps, .ref m_paths]))]) [2] (by decide) rfl
      have hK9 := hK.sub (tys' := []) [] rfl
      refine W.widen (k := 0) (n := 0) (by decide) (by decide) ?_
      exact W.iret (v := r_16) hx hb hr (fun t ht hW => ⟨⟨r_16, 0, rfl, ⟨by rw [if_neg ho_3]; decide, fun _ => hw_17.trans (by show (0 : Int32) * 0 * _ / 100 = _; rw [show (0 : Int32) * 0 = 0 from by decide, Int32.zero_mul]; decide)⟩, by rw [ht]; exact hP9, va_K.moved hW.alike hK9, hD9⟩, hS.F ht⟩) hS.2.2 dX10_cell_113
    by_cases w_12_5 : w = 5
    · skip
      subst w_12_5
      refine lv_tableIn (tgt := 114) hx hb dX10_cell_29 (by decide) (by decide) rfl (by decide) ?_
      have hl : lv_has ls 5 [(4, .int (nI (10 * j_8 + i_7))), (0, .ref h0), (1, .int (nI i_7)), (2, .int (nI j_8)), (3, .int 5)] := hl
      refine lv_aload_n hx hb dX10_cell_114 rfl (lv_at hl 1 rfl) ?_
      refine lv_iload hx hb dX10_cell_115 (lv_at hl 0 rfl) ?_
      refine mc_Vi (rest := []) (wr := [(m_low, .inl (y_low, 100, .inl (fun _ => 0))), (m_high, .inl (y_high, 100, .inl (fun _ => 0))), (m_crack, .inl (y_crack, 100, .inl (fun _ => 0))), (m_rule, .inl (y_rule, 8, .inl f_rule))]) F hK hP hD hS hA (m_boothAt0 l D h0 m_tape m_rule m_rules m_stair m_low m_high m_crack m_weight m_fire m_crowd m_state m_where m_words m_told m_breaks m_row m_tried m_steps m_paths 0 0 0 0 0 (((-1))) 5 5 0 0 0 0 0 0 0 0 0 (nI (10 * j_8 + i_7)) ) ⟨gk_X10_177.1, gk_X10_177.2, Nat.le_of_ble_eq_true rfl, Nat.le_of_ble_eq_true rfl⟩ [4] [0, 1, 2, 3] [] ⟨rfl, rfl, rfl, rfl, by decide⟩ rfl xT_move (fun _ _ _ => trivial) 4 rfl rfl rfl hl.1 rfl (Nat.le_of_ble_eq_true rfl) dX10_cell_117 ⟨Nat.le_of_ble_eq_true rfl, Nat.le_of_ble_eq_true rfl⟩ (fun r_18 _ H locs hw hK1 hP hD hS => ?_)
      have hP : va_P D vwCl [(m_low, .inl (y_low, 100, .inl (fun _ => 0))), (m_high, .inl (y_high, 100, .inl (fun _ => 0))), (m_crack, .inl (y_crack, 100, .inl (fun _ => 0))), (m_rule, .inl (y_rule, 8, .inl f_rule)), (h0, .inr (9, [.ref m_tape, .int 0, .int 0, .ref m_rule, .ref m_rules, .int 0, .ref m_stair, .int 0, .int 0, .int ((((-1)))), .int 5, .int 5, .ref m_low, .ref m_high, .ref m_crack, .int 0, .ref m_weight, .ref m_fire, .ref m_crowd, .ref m_state, .ref m_where, .int 0, .int 0, .int 0, .ref m_words, .int 0, .int 0, .int 0, .int 0, .int 0, .int 0, .ref m_told, .ref m_breaks, .ref m_row, .ref m_tried, .ref m_steps, .ref m_paths]))] H := hP
      have hD : va_D A [(m_low, .inl (y_low, 100, .inl (fun _ => 0))), (m_high, .inl (y_high, 100, .inl (fun _ => 0))), (m_crack, .inl (y_crack, 100, .inl (fun _ => 0))), (m_rule, .inl (y_rule, 8, .inl f_rule)), (h0, .inr (9, [.ref m_tape, .int 0, .int 0, .ref m_rule, .ref m_rules, .int 0, .ref m_stair, .int 0, .int 0, .int ((((-1)))), .int 5, .int 5, .ref m_low, .ref m_high, .ref m_crack, .int 0, .ref m_weight, .ref m_fire, .ref m_crowd, .ref m_state, .ref m_where, .int 0, .int 0, .int 0, .ref m_words, .int 0, .int 0, .int 0, .int 0, .int 0, .int 0, .ref m_told, .ref m_breaks, .ref m_row, .ref m_tried, .ref m_steps, .ref m_paths]))] := hD
      have hw_19 : r_18 = (-1) := hw
      obtain rfl : r_18 = (-1) := hw_19
      have hP9 := hP.sub (ws' := [(h0, .inr (9, [.ref m_tape, .int 0, .int 0, .ref m_rule, .ref m_rules, .int 0, .ref m_stair, .int 0, .int 0, .int ((-1)), .int 5, .int 5, .ref m_low, .ref m_high, .ref m_crack, .int 0, .ref m_weight, .ref m_fire, .ref m_crowd, .ref m_state, .ref m_where, .int 0, .int 0, .int 0, .ref m_words, .int 0, .int 0, .int 0, .int 0, .int 0, .int 0, .ref m_told, .ref m_breaks, .ref m_row, .ref m_tried, .ref m_steps, .ref m_paths]))]) [4] rfl
      have hD9 := hD.sub (ws' := [(h0, .inr (9, [.ref m_tape, .int 0, .int 0, .ref m_rule, .ref m_rules, .int 0, .ref m_stair, .int 0, .int 0, .int ((-1)), .int 5, .int 5, .ref m_low, .ref m_high, .ref m_crack, .int 0, .ref m_weight, .ref m_fire, .ref m_crowd, .ref m_state, .ref m_where, .int 0, .int 0, .int 0, .ref m_words, .int 0, .int 0, .int 0, .int 0, .int 0, .int 0, .ref m_told, .ref m_breaks, .ref m_row, .ref m_tried, .ref m_steps, .ref m_paths]))]) [4] (by decide) rfl
      have hK9 := hK.sub (tys' := []) [] rfl
      refine W.widen (k := 0) (n := 0) (by decide) (by decide) ?_
      exact W.iret (v := (-1)) hx hb hr (fun t ht hW => ⟨⟨((-1)), 0, rfl, ⟨by rw [if_neg ho_3]; decide, fun _ => by decide⟩, by rw [ht]; exact hP9, va_K.moved hW.alike hK9, hD9⟩, hS.F ht⟩) hS.2.2 dX10_cell_120
    refine lv_tableOut (tgt := 121) hx hb dX10_cell_29 (m_out w (by decide) (by decide) (fun j h1 h2 => ?_)) (by decide) ?_
    · skip
      rcases (show j = 0 ∨ j = 1 ∨ j = 2 ∨ j = 3 ∨ j = 4 ∨ j = 5 by omega) with rfl | rfl | rfl | rfl | rfl | rfl
      · exact w_12_0
      · exact w_12_1
      · exact w_12_2
      · exact w_12_3
      · exact w_12_4
      · exact w_12_5
    refine lv_aload_n hx hb dX10_cell_121 rfl (lv_at hl 1 rfl) ?_
    refine lv_iconst (v := 2) hx hb dX10_cell_122 (by decide) ?_
    refine mc_Vi (rest := []) (wr := [(m_low, .inl (y_low, 100, .inl (fun _ => 0))), (m_high, .inl (y_high, 100, .inl (fun _ => 0))), (m_crack, .inl (y_crack, 100, .inl (fun _ => 0))), (m_rule, .inl (y_rule, 8, .inl f_rule))]) F hK hP hD hS hA (m_fails l D h0 m_tape m_rule m_rules m_stair m_low m_high m_crack m_weight m_fire m_crowd m_state m_where m_words m_told m_breaks m_row m_tried m_steps m_paths 0 0 0 0 0 (((-1))) 5 5 0 0 0 0 0 0 0 0 0 0 2 ) ⟨gk_X10_224.1, gk_X10_224.2, Nat.le_of_ble_eq_true rfl, Nat.le_of_ble_eq_true rfl⟩ [4] [0, 1, 2, 3] [] ⟨rfl, rfl, rfl, rfl, by decide⟩ rfl xT_move (fun _ _ _ => trivial) 4 rfl rfl rfl hl.1 rfl (Nat.le_of_ble_eq_true rfl) dX10_cell_123 ⟨Nat.le_of_ble_eq_true rfl, Nat.le_of_ble_eq_true rfl⟩ (fun r_20 _ H locs hw hK1 hP hD hS => ?_)
    have hP : va_P D vwCl [(m_low, .inl (y_low, 100, .inl (fun _ => 0))), (m_high, .inl (y_high, 100, .inl (fun _ => 0))), (m_crack, .inl (y_crack, 100, .inl (fun _ => 0))), (m_rule, .inl (y_rule, 8, .inl f_rule)), (h0, .inr (9, [.ref m_tape, .int 0, .int 2, .ref m_rule, .ref m_rules, .int 0, .ref m_stair, .int 0, .int 0, .int ((((-1)))), .int 5, .int 5, .ref m_low, .ref m_high, .ref m_crack, .int 0, .ref m_weight, .ref m_fire, .ref m_crowd, .ref m_state, .ref m_where, .int 0, .int 0, .int 0, .ref m_words, .int 0, .int 0, .int 0, .int 0, .int 0, .int 0, .ref m_told, .ref m_breaks, .ref m_row, .ref m_tried, .ref m_steps, .ref m_paths]))] H := hP
    have hD : va_D A [(m_low, .inl (y_low, 100, .inl (fun _ => 0))), (m_high, .inl (y_high, 100, .inl (fun _ => 0))), (m_crack, .inl (y_crack, 100, .inl (fun _ => 0))), (m_rule, .inl (y_rule, 8, .inl f_rule)), (h0, .inr (9, [.ref m_tape, .int 0, .int 2, .ref m_rule, .ref m_rules, .int 0, .ref m_stair, .int 0, .int 0, .int ((((-1)))), .int 5, .int 5, .ref m_low, .ref m_high, .ref m_crack, .int 0, .ref m_weight, .ref m_fire, .ref m_crowd, .ref m_state, .ref m_where, .int 0, .int 0, .int 0, .ref m_words, .int 0, .int 0, .int 0, .int 0, .int 0, .int 0, .ref m_told, .ref m_breaks, .ref m_row, .ref m_tried, .ref m_steps, .ref m_paths]))] := hD
    have hw_21 : r_20 = 0 := hw
    obtain rfl : r_20 = 0 := hw_21
    have hP9 := hP.sub (ws' := [(h0, .inr (9, [.ref m_tape, .int 0, .int 2, .ref m_rule, .ref m_rules, .int 0, .ref m_stair, .int 0, .int 0, .int ((-1)), .int 5, .int 5, .ref m_low, .ref m_high, .ref m_crack, .int 0, .ref m_weight, .ref m_fire, .ref m_crowd, .ref m_state, .ref m_where, .int 0, .int 0, .int 0, .ref m_words, .int 0, .int 0, .int 0, .int 0, .int 0, .int 0, .ref m_told, .ref m_breaks, .ref m_row, .ref m_tried, .ref m_steps, .ref m_paths]))]) [4] rfl
    have hD9 := hD.sub (ws' := [(h0, .inr (9, [.ref m_tape, .int 0, .int 2, .ref m_rule, .ref m_rules, .int 0, .ref m_stair, .int 0, .int 0, .int ((-1)), .int 5, .int 5, .ref m_low, .ref m_high, .ref m_crack, .int 0, .ref m_weight, .ref m_fire, .ref m_crowd, .ref m_state, .ref m_where, .int 0, .int 0, .int 0, .ref m_words, .int 0, .int 0, .int 0, .int 0, .int 0, .int 0, .ref m_told, .ref m_breaks, .ref m_row, .ref m_tried, .ref m_steps, .ref m_paths]))]) [4] (by decide) rfl
    have hK9 := hK.sub (tys' := []) [] rfl
    refine W.widen (k := 0) (n := 0) (by decide) (by decide) ?_
    exact W.iret (v := 0) hx hb hr (fun t ht hW => ⟨⟨0, 2, rfl, ⟨by rw [if_neg ho_3, if_pos (cell_out w_12_0 w_12_1 w_12_2 w_12_3 w_12_4 w_12_5)], fun h => absurd h (by decide)⟩, by rw [ht]; exact hP9, va_K.moved hW.alike hK9, hD9⟩, hS.F ht⟩) hS.2.2 dX10_cell_126
