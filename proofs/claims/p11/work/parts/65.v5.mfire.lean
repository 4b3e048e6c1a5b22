set_option maxHeartbeats 4000000 in
set_option maxRecDepth 100000 in
theorem t_within (l : Launch) (D : va_G) (x : Int32) : cI l yX10_within (.code yX10_within cX10_within 1 (some .int)) ({ frames := 0, cells := 0, slots := 0, locals := 0 }) D [] [] xT [Value.int x] (S := Unit) (fun r _ => r = wbI x) (fun _ => []) (fun _ => []) := by
  intro sz
  refine Met.ofW (cc := cX10_within) (maxL := 1) (ret := (some .int)) (by decide) rfl ?_
  intro p e s m args below meth c s₁ B hml hv
  obtain ⟨rfl, hsz, hP, hK, hD0, hX⟩ := hv
  have hx := B.exec
  have hb := B.bytes
  have hr := B.returns
  have hts0 := atoms_spec (ws := .code yX10_within cX10_within 1 (some .int) :: gw) B.pre
  have hts := fun (w : Cond) (h : w ∈ gw) => hts0 w (List.mem_cons_of_mem _ h)
  have hown : s.vm.findClass RX10 = some m.cls := findClass_of_methodNamed B.named
  have hlocks := B.notSynchronized
  have F : mFix p s m _ c cX10_within 1 RX10 := ⟨hx, hb, hml, hown, hts⟩
  subst hsz
  have hD := hD0.self (sz := s.heap.size)
  generalize hAe : va_A [] s.heap.size = A at hD hX ⊢
  have hA : ∀ q : Nat, s.heap.size ≤ q → A q := fun q h => by rw [← hAe]; exact Or.inr h
  have hS : va_S A s.heap s.heap [] := va_S.rf
  have hl := lv_entry ([Value.int x]) (n := 1) (Nat.le_of_ble_eq_true rfl)
  rw [lg_entry_eq]
  generalize (lg_sl ([Value.int x]) ++ List.replicate (1 - (lg_sl ([Value.int x])).length) Slot.unset).toArray = ls at hl ⊢
  have hl : lv_has ls 1 [(0, Value.int x)] := hl
  have hP : va_P D vwCl [] s.heap := hP
  refine lv_iload_n hx hb dX10_within_0 rfl (lv_at hl 0 rfl) ?_
  refine lv_if_ge (tgt := 8) hx hb dX10_within_1 (by decide) (fun c_1 => ?_) (fun c_1 => ?_)
  · skip
    have c_1 := Int32.not_lt.mpr c_1
    refine lv_iload_n hx hb dX10_within_8 rfl (lv_at hl 0 rfl) ?_
    refine lv_bipush (v := 99) hx hb dX10_within_9 (by decide) ?_
    refine lv_icmp_le (tgt := 19) hx hb dX10_within_11 (by decide) (fun c_2 => ?_) (fun c_2 => ?_)
    · skip
      have c_2 := Int32.not_lt.mpr c_2
      refine lv_iload_n hx hb dX10_within_19 rfl (lv_at hl 0 rfl) ?_
      have hP9 := hP.sub (ws' := []) [] rfl
      have hD9 := hD.sub (ws' := []) [] (by decide) rfl
      have hK9 := hK.sub (tys' := []) [] rfl
      refine W.widen (k := 0) (n := 0) (by decide) (by decide) ?_
      exact W.iret (v := x) hx hb hr (fun t ht hW => ⟨⟨x, (), rfl, (wb_m c_1 c_2), by rw [ht]; exact hP9, va_K.moved hW.alike hK9, hD9⟩, hS.F ht⟩) hS.2.2 dX10_within_20
    · skip
      have c_2 := Int32.not_le.mp c_2
      refine lv_bipush (v := 99) hx hb dX10_within_14 (by decide) ?_
      refine lv_goto (tgt := 20) hx hb dX10_within_16 (by decide) ?_
      have hP9 := hP.sub (ws' := []) [] rfl
      have hD9 := hD.sub (ws' := []) [] (by decide) rfl
      have hK9 := hK.sub (tys' := []) [] rfl
      refine W.widen (k := 0) (n := 0) (by decide) (by decide) ?_
      exact W.iret (v := 99) hx hb hr (fun t ht hW => ⟨⟨99, (), rfl, (wb_g c_2), by rw [ht]; exact hP9, va_K.moved hW.alike hK9, hD9⟩, hS.F ht⟩) hS.2.2 dX10_within_20
  · skip
    have c_1 := Int32.not_le.mp c_1
    refine lv_iconst (v := 0) hx hb dX10_within_4 (by decide) ?_
    refine lv_goto (tgt := 20) hx hb dX10_within_5 (by decide) ?_
    have hP9 := hP.sub (ws' := []) [] rfl
    have hD9 := hD.sub (ws' := []) [] (by decide) rfl
    have hK9 := hK.sub (tys' := []) [] rfl
    refine W.widen (k := 0) (n := 0) (by decide) (by decide) ?_
    exact W.iret (v := 0) hx hb hr (fun t ht hW => ⟨⟨0, (), rfl, (wb_n c_1), by rw [ht]; exact hP9, va_K.moved hW.alike hK9, hD9⟩, hS.F ht⟩) hS.2.2 dX10_within_20
set_option maxHeartbeats 4000000 in
set_option maxRecDepth 100000 in
theorem lp_t_fires {p : Program} {l : Launch} {e : Env} {s : State} {m : MethodId} {args : Array Value} {below : List Frame} {meth : Method} {c : Code} {Q : State → Prop} {A : Nat → Prop} {D : va_G} (F : mFix p s m args c cX10_fires 5 RX10) (hA : ∀ q, s.heap.size ≤ q → A q) (h0 : Nat) (m_tape : Nat) (ln : Nat) (s_thrown : Int32) (m_rule : Nat) (m_rules : Nat) (sn : Nat) (m_stair : Nat) (s_readStairs : Int32) (s_fault : Int32) (s_faultPlace : Int32) (w : Nat) (h : Nat) (m_low : Nat) (m_high : Nat) (m_crack : Nat) (bc : Nat) (m_weight : Nat) (m_fire : Nat) (m_crowd : Nat) (m_state : Nat) (m_where : Nat) (s_hours : Int32) (s_fees : Int32) (s_looks : Int32) (m_words : Nat) (s_end : Int32) (s_next : Int32) (s_kind : Int32) (s_which : Int32) (s_place : Int32) (s_read : Int32) (m_told : Nat) (m_breaks : Nat) (m_row : Nat) (m_tried : Nat) (m_steps : Nat) (m_paths : Nat) (y_state : ClassId) (f_state : Nat → Int32) (y_where : ClassId) (f_where : Nat → Int32) (y_fire : ClassId) (f_fire : Nat → Int32) (y_rule : ClassId) (f_rule : Nat → Int32) (cq : Nat) (wh : Nat → Nat) (ru : Nat → Nat) (hK : va_K D vwCl [(y_state, .int), (y_where, .int), (y_fire, .boolean), (y_rule, .int)] s)
    (kx_110 : ∀ (su : Int32), (su = firS (fun q => nI (ru q)) f_fire f_state wh cq bc) → ∀ (H : Heap) (locs : List Loc), va_P D vwCl [(h0, Sum.inr (9, [Value.ref m_tape, Value.int (nI ln), Value.int s_thrown, Value.ref m_rule, Value.ref m_rules, Value.int (nI sn), Value.ref m_stair, Value.int s_readStairs, Value.int s_fault, Value.int s_faultPlace, Value.int (nI w), Value.int (nI h), Value.ref m_low, Value.ref m_high, Value.ref m_crack, Value.int (nI bc), Value.ref m_weight, Value.ref m_fire, Value.ref m_crowd, Value.ref m_state, Value.ref m_where, Value.int s_hours, Value.int s_fees, Value.int s_looks, Value.ref m_words, Value.int s_end, Value.int s_next, Value.int s_kind, Value.int s_which, Value.int s_place, Value.int s_read, Value.ref m_told, Value.ref m_breaks, Value.ref m_row, Value.ref m_tried, Value.ref m_steps, Value.ref m_paths])), (m_state, Sum.inl (y_state, 10, Sum.inl f_state)), (m_where, Sum.inl (y_where, 10, Sum.inl f_where)), (m_fire, Sum.inl (y_fire, 10, Sum.inl f_fire)), (m_rule, Sum.inl (y_rule, 8, Sum.inl f_rule))] H → va_D A [(h0, Sum.inr (9, [Value.ref m_tape, Value.int (nI ln), Value.int s_thrown, Value.ref m_rule, Value.ref m_rules, Value.int (nI sn), Value.ref m_stair, Value.int s_readStairs, Value.int s_fault, Value.int s_faultPlace, Value.int (nI w), Value.int (nI h), Value.ref m_low, Value.ref m_high, Value.ref m_crack, Value.int (nI bc), Value.ref m_weight, Value.ref m_fire, Value.ref m_crowd, Value.ref m_state, Value.ref m_where, Value.int s_hours, Value.int s_fees, Value.int s_looks, Value.ref m_words, Value.int s_end, Value.int s_next, Value.int s_kind, Value.int s_which, Value.int s_place, Value.int s_read, Value.ref m_told, Value.ref m_breaks, Value.ref m_row, Value.ref m_tried, Value.ref m_steps, Value.ref m_paths])), (m_state, Sum.inl (y_state, 10, Sum.inl f_state)), (m_where, Sum.inl (y_where, 10, Sum.inl f_where)), (m_fire, Sum.inl (y_fire, 10, Sum.inl f_fire)), (m_rule, Sum.inl (y_rule, 8, Sum.inl f_rule))] → va_S A s.heap H locs → ∀ ls : Array Slot, lv_has ls 5 [(2, Value.int su)] → W p l e ({ frames := 1, cells := 0, slots := 0, locals := 20 }) s m args below meth c H locs 0 0 Q (F0 m 110 ls [])) :
    ∀ n : Nat, ∀ (su : Int32) (i : Nat), (i ≤ bc) → (bc ≤ 10) → (cq < 100) → (∀ b, b < bc → f_state b = 1 → f_where b = nI (wh b) ∧ wh b < 100) → (∀ q, q < 8 → f_rule q = nI (ru q)) → (su = firS (fun q => nI (ru q)) f_fire f_state wh cq i) → (bc - i) < n → ∀ (H : Heap) (locs : List Loc), va_P D vwCl [(h0, Sum.inr (9, [Value.ref m_tape, Value.int (nI ln), Value.int s_thrown, Value.ref m_rule, Value.ref m_rules, Value.int (nI sn), Value.ref m_stair, Value.int s_readStairs, Value.int s_fault, Value.int s_faultPlace, Value.int (nI w), Value.int (nI h), Value.ref m_low, Value.ref m_high, Value.ref m_crack, Value.int (nI bc), Value.ref m_weight, Value.ref m_fire, Value.ref m_crowd, Value.ref m_state, Value.ref m_where, Value.int s_hours, Value.int s_fees, Value.int s_looks, Value.ref m_words, Value.int s_end, Value.int s_next, Value.int s_kind, Value.int s_which, Value.int s_place, Value.int s_read, Value.ref m_told, Value.ref m_breaks, Value.ref m_row, Value.ref m_tried, Value.ref m_steps, Value.ref m_paths])), (m_state, Sum.inl (y_state, 10, Sum.inl f_state)), (m_where, Sum.inl (y_where, 10, Sum.inl f_where)), (m_fire, Sum.inl (y_fire, 10, Sum.inl f_fire)), (m_rule, Sum.inl (y_rule, 8, Sum.inl f_rule))] H → va_D A [(h0, Sum.inr (9, [Value.ref m_tape, Value.int (nI ln), Value.int s_thrown, Value.ref m_rule, Value.ref m_rules, Value.int (nI sn), Value.ref m_stair, Value.int s_readStairs, Value.int s_fault, Value.int s_faultPlace, Value.int (nI w), Value.int (nI h), Value.ref m_low, Value.ref m_high, Value.ref m_crack, Value.int (nI bc), Value.ref m_weight, Value.ref m_fire, Value.ref m_crowd, Value.ref m_state, Value.ref m_where, Value.int s_hours, Value.int s_fees, Value.int s_looks, Value.ref m_words, Value.int s_end, Value.int s_next, Value.int s_kind, Value.int s_which, Value.int s_place, Value.int s_read, Value.ref m_told, Value.ref m_breaks, Value.ref m_row, Value.ref m_tried, Value.ref m_steps, Value.ref m_paths])), (m_state, Sum.inl (y_state, 10, Sum.inl f_state)), (m_where, Sum.inl (y_where, 10, Sum.inl f_where)), (m_fire, Sum.inl (y_fire, 10, Sum.inl f_fire)), (m_rule, Sum.inl (y_rule, 8, Sum.inl f_rule))] → va_S A s.heap H locs → ∀ ls : Array Slot, lv_has ls 5 [(0, Value.ref h0), (1, Value.int (nI cq)), (2, Value.int su), (3, Value.int (nI i))] → W p l e ({ frames := 1, cells := 0, slots := 0, locals := 20 }) s m args below meth c H locs 0 0 Q (F0 m 4 ls []) := by
  intro n
  induction n with
  | zero => intro su i hi hbc hcq hWm hR8 hsu hn; exact absurd hn (Nat.not_lt_zero _)
  | succ n ih =>
    intro su i hi hbc hcq hWm hR8 hsu hn H locs hP hD hS ls hl
    obtain ⟨hx, hb, hml, hown, hts⟩ := id F
    refine lv_iload_n hx hb dX10_fires_4 rfl (lv_at hl 3 rfl) ?_
    refine lv_aload_n hx hb dX10_fires_5 rfl (lv_at hl 0 rfl) ?_
    refine va_get (D := D) (ci := 9) (v := Value.int (nI bc)) (C := RX10) (T := TX10) (N := 37) hx hb hts inG_X10 hown hK hP 0 rfl rfl 15 (by decide) (hts _ kw_4_210) (fun _ h9 => h9) rfl dX10_fires_6 ?_
    refine lv_icmp_ge (tgt := 110) hx hb dX10_fires_9 (by decide) (fun c_1 => ?_) (fun c_1 => ?_)
    · skip
      have c_1n : bc ≤ i := (nI_leI (by omega) (by omega)).mp c_1
      have c_1 := Int32.not_lt.mpr c_1
      exact kx_110 su ((show i = bc by omega) ▸ hsu) H locs (hP.sub [0, 1, 2, 3, 4] rfl) (hD.sub [0, 1, 2, 3, 4] (by decide) rfl) hS ls (lv_sub hl [2] rfl)
    · skip
      have c_1n : i < bc := nb_le (by omega) (by omega) c_1
      have c_1 := Int32.not_le.mp c_1
      refine lv_aload_n hx hb dX10_fires_12 rfl (lv_at hl 0 rfl) ?_
      refine va_get (D := D) (ci := 9) (v := Value.ref m_state) (C := RX10) (T := TX10) (N := 37) hx hb hts inG_X10 hown hK hP 0 rfl rfl 19 (by decide) (hts _ kw_4_214) (fun _ h9 => h9) rfl dX10_fires_13 ?_
      refine lv_iload_n hx hb dX10_fires_16 rfl (lv_at hl 3 rfl) ?_
      refine m_iald hx hb hK hP 1 0 rfl rfl i rfl (by omega) (by decide) dX10_fires_17 ?_
      refine lv_topi (fun v_2 ev_2 => ?_)
      refine lv_iconst (v := 1) hx hb dX10_fires_18 (by decide) ?_
      refine lv_icmp_ne (tgt := 104) hx hb dX10_fires_19 (by decide) (fun c_3 => ?_) (fun c_3 => ?_)
      · skip
        refine lv_iinc (v := nI (i + 1)) (lv' := [(3, Value.int (nI (i + 1))), (0, Value.ref h0), (1, Value.int (nI cq)), (2, Value.int su)]) hx hb dX10_fires_104 hl (k := 3) rfl (nI_add i 1) (by decide) rfl (fun ls hl => ?_)
        refine lv_goto (tgt := 4) hx hb dX10_fires_107 (by decide) ?_
        exact ih su (i + 1) (by omega) (by omega) (by omega) hWm hR8 (hsu.trans (firS_n (fun q => c_3 (by rw [ev_2]; exact q.1)))) (by omega) H locs (hP.sub [0, 1, 2, 3, 4] rfl) (hD.sub [0, 1, 2, 3, 4] (by decide) rfl) hS ls (lv_sub hl [1, 2, 3, 0] rfl)
      · skip
        have hs1 : f_state i = 1 := by rw [← ev_2]; exact c_3
        have hw9 := hWm i (by omega) hs1
        refine lv_aload_n hx hb dX10_fires_22 rfl (lv_at hl 0 rfl) ?_
        refine va_get (D := D) (ci := 9) (v := Value.ref m_fire) (C := RX10) (T := TX10) (N := 37) hx hb hts inG_X10 hown hK hP 0 rfl rfl 17 (by decide) (hts _ kw_4_212) (fun _ h9 => h9) rfl dX10_fires_23 ?_
        refine lv_iload_n hx hb dX10_fires_26 rfl (lv_at hl 3 rfl) ?_
        refine m_zald hx hb hK hP 3 2 rfl rfl i rfl (by omega) (by decide) dX10_fires_27 ?_
        refine lv_topi (fun v_4 ev_4 => ?_)
        refine lv_if_ne (tgt := 34) hx hb dX10_fires_28 (by decide) (fun c_5 => ?_) (fun c_5 => ?_)
        · skip
          have hf1 : ¬ f_fire i = 0 := fun q => c_5 (by rw [ev_4]; exact q)
          refine lv_aload_n hx hb dX10_fires_34 rfl (lv_at hl 0 rfl) ?_
          refine va_get (D := D) (ci := 9) (v := Value.ref m_where) (C := RX10) (T := TX10) (N := 37) hx hb hts inG_X10 hown hK hP 0 rfl rfl 20 (by decide) (hts _ kw_4_215) (fun _ h9 => h9) rfl dX10_fires_35 ?_
          refine lv_iload_n hx hb dX10_fires_38 rfl (lv_at hl 3 rfl) ?_
          refine m_iald hx hb hK hP 2 1 rfl rfl i rfl (by omega) (by decide) dX10_fires_39 ?_
          refine lv_topi (fun v_6 ev_6 => ?_)
          obtain rfl : v_6 = nI (wh i) := ev_6.trans hw9.1
          refine lv_bipush (v := 10) hx hb dX10_fires_40 (by decide) ?_
          refine lv_irem hx hb dX10_fires_42 (by decide) ?_
          refine lv_topi (fun z_7 ez_7 => ?_)
          obtain rfl : z_7 = nI ((wh i) % 10) := ez_7.trans (pk_rem (a := wh i) (d := 10) (by omega) (by decide) (by decide))
          refine lv_iload_n hx hb dX10_fires_43 rfl (lv_at hl 1 rfl) ?_
          refine lv_bipush (v := 10) hx hb dX10_fires_44 (by decide) ?_
          refine lv_irem hx hb dX10_fires_46 (by decide) ?_
          refine lv_topi (fun z_8 ez_8 => ?_)
          obtain rfl : z_8 = nI (cq % 10) := ez_8.trans (pk_rem (a := cq) (d := 10) (by omega) (by decide) (by decide))
          refine lv_isub hx hb dX10_fires_47 ?_
          refine lv_topi (fun z_9 ez_9 => ?_)
          refine mc_Si (rest := []) (wr := [(h0, Sum.inr (9, [Value.ref m_tape, Value.int (nI ln), Value.int s_thrown, Value.ref m_rule, Value.ref m_rules, Value.int (nI sn), Value.ref m_stair, Value.int s_readStairs, Value.int s_fault, Value.int s_faultPlace, Value.int (nI w), Value.int (nI h), Value.ref m_low, Value.ref m_high, Value.ref m_crack, Value.int (nI bc), Value.ref m_weight, Value.ref m_fire, Value.ref m_crowd, Value.ref m_state, Value.ref m_where, Value.int s_hours, Value.int s_fees, Value.int s_looks, Value.ref m_words, Value.int s_end, Value.int s_next, Value.int s_kind, Value.int s_which, Value.int s_place, Value.int s_read, Value.ref m_told, Value.ref m_breaks, Value.ref m_row, Value.ref m_tried, Value.ref m_steps, Value.ref m_paths])), (m_state, Sum.inl (y_state, 10, Sum.inl f_state)), (m_where, Sum.inl (y_where, 10, Sum.inl f_where)), (m_fire, Sum.inl (y_fire, 10, Sum.inl f_fire)), (m_rule, Sum.inl (y_rule, 8, Sum.inl f_rule))]) F hK hP hD hS hA (t_size l D (wh i % 10) (cq % 10) z_9 ez_9 (by omega) (by omega)) ⟨gk_X10_158.1, gk_X10_158.2, Nat.le_of_ble_eq_true rfl, Nat.le_of_ble_eq_true rfl⟩ [] [0, 1, 2, 3, 4] [] ⟨rfl, rfl, rfl, rfl, by decide⟩ rfl xT_move (fun _ _ _ => trivial) rfl hl.1 rfl (Nat.le_of_ble_eq_true rfl) dX10_fires_48 ⟨Nat.le_of_ble_eq_true rfl, Nat.le_of_ble_eq_true rfl⟩ (fun r_10 _ H locs hw hK1 hP hD hS => ?_)
          have hP : va_P D vwCl [(h0, Sum.inr (9, [Value.ref m_tape, Value.int (nI ln), Value.int s_thrown, Value.ref m_rule, Value.ref m_rules, Value.int (nI sn), Value.ref m_stair, Value.int s_readStairs, Value.int s_fault, Value.int s_faultPlace, Value.int (nI w), Value.int (nI h), Value.ref m_low, Value.ref m_high, Value.ref m_crack, Value.int (nI bc), Value.ref m_weight, Value.ref m_fire, Value.ref m_crowd, Value.ref m_state, Value.ref m_where, Value.int s_hours, Value.int s_fees, Value.int s_looks, Value.ref m_words, Value.int s_end, Value.int s_next, Value.int s_kind, Value.int s_which, Value.int s_place, Value.int s_read, Value.ref m_told, Value.ref m_breaks, Value.ref m_row, Value.ref m_tried, Value.ref m_steps, Value.ref m_paths])), (m_state, Sum.inl (y_state, 10, Sum.inl f_state)), (m_where, Sum.inl (y_where, 10, Sum.inl f_where)), (m_fire, Sum.inl (y_fire, 10, Sum.inl f_fire)), (m_rule, Sum.inl (y_rule, 8, Sum.inl f_rule))] H := hP
          have hD : va_D A [(h0, Sum.inr (9, [Value.ref m_tape, Value.int (nI ln), Value.int s_thrown, Value.ref m_rule, Value.ref m_rules, Value.int (nI sn), Value.ref m_stair, Value.int s_readStairs, Value.int s_fault, Value.int s_faultPlace, Value.int (nI w), Value.int (nI h), Value.ref m_low, Value.ref m_high, Value.ref m_crack, Value.int (nI bc), Value.ref m_weight, Value.ref m_fire, Value.ref m_crowd, Value.ref m_state, Value.ref m_where, Value.int s_hours, Value.int s_fees, Value.int s_looks, Value.ref m_words, Value.int s_end, Value.int s_next, Value.int s_kind, Value.int s_which, Value.int s_place, Value.int s_read, Value.ref m_told, Value.ref m_breaks, Value.ref m_row, Value.ref m_tried, Value.ref m_steps, Value.ref m_paths])), (m_state, Sum.inl (y_state, 10, Sum.inl f_state)), (m_where, Sum.inl (y_where, 10, Sum.inl f_where)), (m_fire, Sum.inl (y_fire, 10, Sum.inl f_fire)), (m_rule, Sum.inl (y_rule, 8, Sum.inl f_rule))] := hD
          have hw_11 : r_10 = nI (dfN (wh i % 10) (cq % 10)) := hw
          obtain rfl : r_10 = nI (dfN (wh i % 10) (cq % 10)) := hw_11
          have hdfr_10 : dfN (wh i % 10) (cq % 10) = ((wh i % 10) - (cq % 10)) + ((cq % 10) - (wh i % 10)) := rfl
          refine lv_aload_n hx hb dX10_fires_51 rfl (lv_at hl 0 rfl) ?_
          refine va_get (D := D) (ci := 9) (v := Value.ref m_where) (C := RX10) (T := TX10) (N := 37) hx hb hts inG_X10 hown hK hP 0 rfl rfl 20 (by decide) (hts _ kw_4_215) (fun _ h9 => h9) rfl dX10_fires_52 ?_
          refine lv_iload_n hx hb dX10_fires_55 rfl (lv_at hl 3 rfl) ?_
          refine m_iald hx hb hK hP 2 1 rfl rfl i rfl (by omega) (by decide) dX10_fires_56 ?_
          refine lv_topi (fun v_12 ev_12 => ?_)
          obtain rfl : v_12 = nI (wh i) := ev_12.trans hw9.1
          refine lv_bipush (v := 10) hx hb dX10_fires_57 (by decide) ?_
          refine lv_idiv hx hb dX10_fires_59 (by decide) ?_
          refine lv_topi (fun z_13 ez_13 => ?_)
          obtain rfl : z_13 = nI ((wh i) / 10) := ez_13.trans (pk_div (a := wh i) (d := 10) (by omega) (by decide) (by decide))
          refine lv_iload_n hx hb dX10_fires_60 rfl (lv_at hl 1 rfl) ?_
          refine lv_bipush (v := 10) hx hb dX10_fires_61 (by decide) ?_
          refine lv_idiv hx hb dX10_fires_63 (by decide) ?_
          refine lv_topi (fun z_14 ez_14 => ?_)
          obtain rfl : z_14 = nI (cq / 10) := ez_14.trans (pk_div (a := cq) (d := 10) (by omega) (by decide) (by decide))
          refine lv_isub hx hb dX10_fires_64 ?_
          refine lv_topi (fun z_15 ez_15 => ?_)
          refine mc_Si (rest := [Value.int (nI (dfN (wh i % 10) (cq % 10)))]) (wr := [(h0, Sum.inr (9, [Value.ref m_tape, Value.int (nI ln), Value.int s_thrown, Value.ref m_rule, Value.ref m_rules, Value.int (nI sn), Value.ref m_stair, Value.int s_readStairs, Value.int s_fault, Value.int s_faultPlace, Value.int (nI w), Value.int (nI h), Value.ref m_low, Value.ref m_high, Value.ref m_crack, Value.int (nI bc), Value.ref m_weight, Value.ref m_fire, Value.ref m_crowd, Value.ref m_state, Value.ref m_where, Value.int s_hours, Value.int s_fees, Value.int s_looks, Value.ref m_words, Value.int s_end, Value.int s_next, Value.int s_kind, Value.int s_which, Value.int s_place, Value.int s_read, Value.ref m_told, Value.ref m_breaks, Value.ref m_row, Value.ref m_tried, Value.ref m_steps, Value.ref m_paths])), (m_state, Sum.inl (y_state, 10, Sum.inl f_state)), (m_where, Sum.inl (y_where, 10, Sum.inl f_where)), (m_fire, Sum.inl (y_fire, 10, Sum.inl f_fire)), (m_rule, Sum.inl (y_rule, 8, Sum.inl f_rule))]) F hK hP hD hS hA (t_size l D (wh i / 10) (cq / 10) z_15 ez_15 (by omega) (by omega)) ⟨gk_X10_158.1, gk_X10_158.2, Nat.le_of_ble_eq_true rfl, Nat.le_of_ble_eq_true rfl⟩ [] [0, 1, 2, 3, 4] [] ⟨rfl, rfl, rfl, rfl, by decide⟩ rfl xT_move (fun _ _ _ => trivial) rfl hl.1 rfl (Nat.le_of_ble_eq_true rfl) dX10_fires_65 ⟨Nat.le_of_ble_eq_true rfl, Nat.le_of_ble_eq_true rfl⟩ (fun r_16 _ H locs hw hK1 hP hD hS => ?_)
          have hP : va_P D vwCl [(h0, Sum.inr (9, [Value.ref m_tape, Value.int (nI ln), Value.int s_thrown, Value.ref m_rule, Value.ref m_rules, Value.int (nI sn), Value.ref m_stair, Value.int s_readStairs, Value.int s_fault, Value.int s_faultPlace, Value.int (nI w), Value.int (nI h), Value.ref m_low, Value.ref m_high, Value.ref m_crack, Value.int (nI bc), Value.ref m_weight, Value.ref m_fire, Value.ref m_crowd, Value.ref m_state, Value.ref m_where, Value.int s_hours, Value.int s_fees, Value.int s_looks, Value.ref m_words, Value.int s_end, Value.int s_next, Value.int s_kind, Value.int s_which, Value.int s_place, Value.int s_read, Value.ref m_told, Value.ref m_breaks, Value.ref m_row, Value.ref m_tried, Value.ref m_steps, Value.ref m_paths])), (m_state, Sum.inl (y_state, 10, Sum.inl f_state)), (m_where, Sum.inl (y_where, 10, Sum.inl f_where)), (m_fire, Sum.inl (y_fire, 10, Sum.inl f_fire)), (m_rule, Sum.inl (y_rule, 8, Sum.inl f_rule))] H := hP
          have hD : va_D A [(h0, Sum.inr (9, [Value.ref m_tape, Value.int (nI ln), Value.int s_thrown, Value.ref m_rule, Value.ref m_rules, Value.int (nI sn), Value.ref m_stair, Value.int s_readStairs, Value.int s_fault, Value.int s_faultPlace, Value.int (nI w), Value.int (nI h), Value.ref m_low, Value.ref m_high, Value.ref m_crack, Value.int (nI bc), Value.ref m_weight, Value.ref m_fire, Value.ref m_crowd, Value.ref m_state, Value.ref m_where, Value.int s_hours, Value.int s_fees, Value.int s_looks, Value.ref m_words, Value.int s_end, Value.int s_next, Value.int s_kind, Value.int s_which, Value.int s_place, Value.int s_read, Value.ref m_told, Value.ref m_breaks, Value.ref m_row, Value.ref m_tried, Value.ref m_steps, Value.ref m_paths])), (m_state, Sum.inl (y_state, 10, Sum.inl f_state)), (m_where, Sum.inl (y_where, 10, Sum.inl f_where)), (m_fire, Sum.inl (y_fire, 10, Sum.inl f_fire)), (m_rule, Sum.inl (y_rule, 8, Sum.inl f_rule))] := hD
          have hw_17 : r_16 = nI (dfN (wh i / 10) (cq / 10)) := hw
          obtain rfl : r_16 = nI (dfN (wh i / 10) (cq / 10)) := hw_17
          have hdfr_16 : dfN (wh i / 10) (cq / 10) = ((wh i / 10) - (cq / 10)) + ((cq / 10) - (wh i / 10)) := rfl
          refine lv_iadd hx hb dX10_fires_68 ?_
          refine lv_topi (fun z_18 ez_18 => ?_)
          obtain rfl : z_18 = nI (dfN (wh i % 10) (cq % 10) + dfN (wh i / 10) (cq / 10)) := ez_18.trans (nI_add (dfN (wh i % 10) (cq % 10)) (dfN (wh i / 10) (cq / 10)))
          refine lv_istore (lv' := [(4, Value.int (nI (dfN (wh i % 10) (cq % 10) + dfN (wh i / 10) (cq / 10)))), (0, Value.ref h0), (1, Value.int (nI cq)), (2, Value.int su), (3, Value.int (nI i))]) hx hb dX10_fires_69 hl (by decide) rfl (fun ls hl => ?_)
          refine lv_iload_n hx hb dX10_fires_71 rfl (lv_at hl 3 rfl) ?_
          refine lv_iload hx hb dX10_fires_72 (lv_at hl 0 rfl) ?_
          refine lv_if_ne (tgt := 86) hx hb dX10_fires_74 (by decide) (fun c_19 => ?_) (fun c_19 => ?_)
          · skip
            have c_19n : ¬ (dfN (wh i % 10) (cq % 10) + dfN (wh i / 10) (cq / 10)) = 0 := nb_eq (by omega) (by omega) c_19
            refine lv_iload hx hb dX10_fires_86 (lv_at hl 0 rfl) ?_
            refine lv_iconst (v := 1) hx hb dX10_fires_88 (by decide) ?_
            refine lv_icmp_ne (tgt := 101) hx hb dX10_fires_89 (by decide) (fun c_20 => ?_) (fun c_20 => ?_)
            · skip
              have c_20n : ¬ (dfN (wh i % 10) (cq % 10) + dfN (wh i / 10) (cq / 10)) = 1 := nb_eq (by omega) (by omega) c_20
              refine lv_iconst (v := 0) hx hb dX10_fires_101 (by decide) ?_
              refine lv_iadd hx hb dX10_fires_102 ?_
              refine lv_topi (fun z_21 ez_21 => ?_)
              refine lv_istore_n (lv' := [(2, Value.int z_21), (4, Value.int (nI (dfN (wh i % 10) (cq % 10) + dfN (wh i / 10) (cq / 10)))), (0, Value.ref h0), (1, Value.int (nI cq)), (3, Value.int (nI i))]) hx hb dX10_fires_103 rfl hl (by decide) rfl (fun ls hl => ?_)
              refine lv_iinc (v := nI (i + 1)) (lv' := [(3, Value.int (nI (i + 1))), (2, Value.int z_21), (4, Value.int (nI (dfN (wh i % 10) (cq % 10) + dfN (wh i / 10) (cq / 10)))), (0, Value.ref h0), (1, Value.int (nI cq))]) hx hb dX10_fires_104 hl (k := 4) rfl (nI_add i 1) (by decide) rfl (fun ls hl => ?_)
              refine lv_goto (tgt := 4) hx hb dX10_fires_107 (by decide) ?_
              exact ih z_21 (i + 1) (by omega) (by omega) (by omega) hWm hR8 (by rw [ez_21, hsu]; exact firS_y ⟨hs1, hf1⟩ ((if_neg c_19n).trans (if_neg c_20n)).symm) (by omega) H locs (hP.sub [0, 1, 2, 3, 4] rfl) (hD.sub [0, 1, 2, 3, 4] (by decide) rfl) hS ls (lv_sub hl [3, 4, 1, 0] rfl)
            · skip
              have c_20n : (dfN (wh i % 10) (cq % 10) + dfN (wh i / 10) (cq / 10)) = 1 := (nI_eq (by omega) (by omega)).mp c_20
              refine lv_aload_n hx hb dX10_fires_92 rfl (lv_at hl 1 rfl) ?_
              refine va_get (D := D) (ci := 9) (v := Value.ref m_rule) (C := RX10) (T := TX10) (N := 37) hx hb hts inG_X10 hown hK hP 0 rfl rfl 3 (by decide) (hts _ kw_4_198) (fun _ h9 => h9) rfl dX10_fires_93 ?_
              refine lv_iconst (v := 2) hx hb dX10_fires_96 (by decide) ?_
              refine m_iald hx hb hK hP 4 3 rfl rfl 2 rfl (by decide) (by decide) dX10_fires_97 ?_
              refine lv_topi (fun v_22 ev_22 => ?_)
              obtain rfl : v_22 = nI (ru 2) := ev_22.trans (hR8 2 (by decide))
              refine lv_goto (tgt := 102) hx hb dX10_fires_98 (by decide) ?_
              refine lv_iadd hx hb dX10_fires_102 ?_
              refine lv_topi (fun z_23 ez_23 => ?_)
              refine lv_istore_n (lv' := [(2, Value.int z_23), (4, Value.int (nI (dfN (wh i % 10) (cq % 10) + dfN (wh i / 10) (cq / 10)))), (0, Value.ref h0), (1, Value.int (nI cq)), (3, Value.int (nI i))]) hx hb dX10_fires_103 rfl hl (by decide) rfl (fun ls hl => ?_)
              refine lv_iinc (v := nI (i + 1)) (lv' := [(3, Value.int (nI (i + 1))), (2, Value.int z_23), (4, Value.int (nI (dfN (wh i % 10) (cq % 10) + dfN (wh i / 10) (cq / 10)))), (0, Value.ref h0), (1, Value.int (nI cq))]) hx hb dX10_fires_104 hl (k := 4) rfl (nI_add i 1) (by decide) rfl (fun ls hl => ?_)
              refine lv_goto (tgt := 4) hx hb dX10_fires_107 (by decide) ?_
              exact ih z_23 (i + 1) (by omega) (by omega) (by omega) hWm hR8 (by rw [ez_23, hsu]; exact firS_y ⟨hs1, hf1⟩ ((if_neg c_19n).trans (if_pos c_20n)).symm) (by omega) H locs (hP.sub [0, 1, 2, 3, 4] rfl) (hD.sub [0, 1, 2, 3, 4] (by decide) rfl) hS ls (lv_sub hl [3, 4, 1, 0] rfl)
          · skip
            have c_19n : (dfN (wh i % 10) (cq % 10) + dfN (wh i / 10) (cq / 10)) = 0 := (nI_eq (by omega) (by omega)).mp c_19
            refine lv_aload_n hx hb dX10_fires_77 rfl (lv_at hl 1 rfl) ?_
            refine va_get (D := D) (ci := 9) (v := Value.ref m_rule) (C := RX10) (T := TX10) (N := 37) hx hb hts inG_X10 hown hK hP 0 rfl rfl 3 (by decide) (hts _ kw_4_198) (fun _ h9 => h9) rfl dX10_fires_78 ?_
            refine lv_iconst (v := 1) hx hb dX10_fires_81 (by decide) ?_
            refine m_iald hx hb hK hP 4 3 rfl rfl 1 rfl (by decide) (by decide) dX10_fires_82 ?_
            refine lv_topi (fun v_24 ev_24 => ?_)
            obtain rfl : v_24 = nI (ru 1) := ev_24.trans (hR8 1 (by decide))
            refine lv_goto (tgt := 102) hx hb dX10_fires_83 (by decide) ?_
            refine lv_iadd hx hb dX10_fires_102 ?_
            refine lv_topi (fun z_25 ez_25 => ?_)
            refine lv_istore_n (lv' := [(2, Value.int z_25), (4, Value.int (nI (dfN (wh i % 10) (cq % 10) + dfN (wh i / 10) (cq / 10)))), (0, Value.ref h0), (1, Value.int (nI cq)), (3, Value.int (nI i))]) hx hb dX10_fires_103 rfl hl (by decide) rfl (fun ls hl => ?_)
            refine lv_iinc (v := nI (i + 1)) (lv' := [(3, Value.int (nI (i + 1))), (2, Value.int z_25), (4, Value.int (nI (dfN (wh i % 10) (cq % 10) + dfN (wh i / 10) (cq / 10)))), (0, Value.ref h0), (1, Value.int (nI cq))]) hx hb dX10_fires_104 hl (k := 4) rfl (nI_add i 1) (by decide) rfl (fun ls hl => ?_)
            refine lv_goto (tgt := 4) hx hb dX10_fires_107 (by decide) ?_
            exact ih z_25 (i + 1) (by omega) (by omega) (by omega) hWm hR8 (by rw [ez_25, hsu]; exact firS_y ⟨hs1, hf1⟩ (if_pos c_19n).symm) (by omega) H locs (hP.sub [0, 1, 2, 3, 4] rfl) (hD.sub [0, 1, 2, 3, 4] (by decide) rfl) hS ls (lv_sub hl [3, 4, 1, 0] rfl)
        · skip
          refine lv_goto (tgt := 104) hx hb dX10_fires_31 (by decide) ?_
          refine lv_iinc (v := nI (i + 1)) (lv' := [(3, Value.int (nI (i + 1))), (0, Value.ref h0), (1, Value.int (nI cq)), (2, Value.int su)]) hx hb dX10_fires_104 hl (k := 3) rfl (nI_add i 1) (by decide) rfl (fun ls hl => ?_)
          refine lv_goto (tgt := 4) hx hb dX10_fires_107 (by decide) ?_
          exact ih su (i + 1) (by omega) (by omega) (by omega) hWm hR8 (hsu.trans (firS_n (fun q => q.2 (by rw [← ev_4]; exact c_5)))) (by omega) H locs (hP.sub [0, 1, 2, 3, 4] rfl) (hD.sub [0, 1, 2, 3, 4] (by decide) rfl) hS ls (lv_sub hl [1, 2, 3, 0] rfl)
set_option maxHeartbeats 4000000 in
set_option maxRecDepth 100000 in
theorem t_fires (l : Launch) (D : va_G) (wh : Nat → Nat) (ru : Nat → Nat) (h0 : Nat) (m_tape : Nat) (ln : Nat) (s_thrown : Int32) (m_rule : Nat) (m_rules : Nat) (sn : Nat) (m_stair : Nat) (s_readStairs : Int32) (s_fault : Int32) (s_faultPlace : Int32) (w : Nat) (h : Nat) (m_low : Nat) (m_high : Nat) (m_crack : Nat) (bc : Nat) (m_weight : Nat) (m_fire : Nat) (m_crowd : Nat) (m_state : Nat) (m_where : Nat) (s_hours : Int32) (s_fees : Int32) (s_looks : Int32) (m_words : Nat) (s_end : Int32) (s_next : Int32) (s_kind : Int32) (s_which : Int32) (s_place : Int32) (s_read : Int32) (m_told : Nat) (m_breaks : Nat) (m_row : Nat) (m_tried : Nat) (m_steps : Nat) (m_paths : Nat) (y_state : ClassId) (f_state : Nat → Int32) (y_where : ClassId) (f_where : Nat → Int32) (y_fire : ClassId) (f_fire : Nat → Int32) (y_rule : ClassId) (f_rule : Nat → Int32) (cq : Nat) (hbc : bc ≤ 10) (hcq : cq < 100) (hWm : ∀ b, b < bc → f_state b = 1 → f_where b = nI (wh b) ∧ wh b < 100) (hR8 : ∀ q, q < 8 → f_rule q = nI (ru q)) : cI l yX10_fires (.code yX10_fires cX10_fires 5 (some .int)) ({ frames := 1, cells := 0, slots := 0, locals := 20 }) D [(y_state, .int), (y_where, .int), (y_fire, .boolean), (y_rule, .int)] [(h0, Sum.inr (9, [Value.ref m_tape, Value.int (nI ln), Value.int s_thrown, Value.ref m_rule, Value.ref m_rules, Value.int (nI sn), Value.ref m_stair, Value.int s_readStairs, Value.int s_fault, Value.int s_faultPlace, Value.int (nI w), Value.int (nI h), Value.ref m_low, Value.ref m_high, Value.ref m_crack, Value.int (nI bc), Value.ref m_weight, Value.ref m_fire, Value.ref m_crowd, Value.ref m_state, Value.ref m_where, Value.int s_hours, Value.int s_fees, Value.int s_looks, Value.ref m_words, Value.int s_end, Value.int s_next, Value.int s_kind, Value.int s_which, Value.int s_place, Value.int s_read, Value.ref m_told, Value.ref m_breaks, Value.ref m_row, Value.ref m_tried, Value.ref m_steps, Value.ref m_paths])), (m_state, Sum.inl (y_state, 10, Sum.inl f_state)), (m_where, Sum.inl (y_where, 10, Sum.inl f_where)), (m_fire, Sum.inl (y_fire, 10, Sum.inl f_fire)), (m_rule, Sum.inl (y_rule, 8, Sum.inl f_rule))] xT [Value.ref h0, Value.int (nI cq)] (S := Unit) (fun r _ => r = firS (fun q => nI (ru q)) f_fire f_state wh cq bc) (fun _ => []) (fun _ => [(h0, Sum.inr (9, [Value.ref m_tape, Value.int (nI ln), Value.int s_thrown, Value.ref m_rule, Value.ref m_rules, Value.int (nI sn), Value.ref m_stair, Value.int s_readStairs, Value.int s_fault, Value.int s_faultPlace, Value.int (nI w), Value.int (nI h), Value.ref m_low, Value.ref m_high, Value.ref m_crack, Value.int (nI bc), Value.ref m_weight, Value.ref m_fire, Value.ref m_crowd, Value.ref m_state, Value.ref m_where, Value.int s_hours, Value.int s_fees, Value.int s_looks, Value.ref m_words, Value.int s_end, Value.int s_next, Value.int s_kind, Value.int s_which, Value.int s_place, Value.int s_read, Value.ref m_told, Value.ref m_breaks, Value.ref m_row, Value.ref m_tried, Value.ref m_steps, Value.ref m_paths])), (m_state, Sum.inl (y_state, 10, Sum.inl f_state)), (m_where, Sum.inl (y_where, 10, Sum.inl f_where)), (m_fire, Sum.inl (y_fire, 10, Sum.inl f_fire)), (m_rule, Sum.inl (y_rule, 8, Sum.inl f_rule))]) := by
  intro sz
  refine Met.ofW (cc := cX10_fires) (maxL := 5) (ret := (some .int)) (by decide) rfl ?_
  intro p e s m args below meth c s₁ B hml hv
  obtain ⟨rfl, hsz, hP, hK, hD0, hX⟩ := hv
  have hx := B.exec
  have hb := B.bytes
  have hr := B.returns
  have hts0 := atoms_spec (ws := .code yX10_fires cX10_fires 5 (some .int) :: gw) B.pre
  have hts := fun (w : Cond) (h : w ∈ gw) => hts0 w (List.mem_cons_of_mem _ h)
  have hown : s.vm.findClass RX10 = some m.cls := findClass_of_methodNamed B.named
  have hlocks := B.notSynchronized
  have F : mFix p s m _ c cX10_fires 5 RX10 := ⟨hx, hb, hml, hown, hts⟩
  subst hsz
  have hD := hD0.self (sz := s.heap.size)
  generalize hAe : va_A [(h0, Sum.inr (9, [Value.ref m_tape, Value.int (nI ln), Value.int s_thrown, Value.ref m_rule, Value.ref m_rules, Value.int (nI sn), Value.ref m_stair, Value.int s_readStairs, Value.int s_fault, Value.int s_faultPlace, Value.int (nI w), Value.int (nI h), Value.ref m_low, Value.ref m_high, Value.ref m_crack, Value.int (nI bc), Value.ref m_weight, Value.ref m_fire, Value.ref m_crowd, Value.ref m_state, Value.ref m_where, Value.int s_hours, Value.int s_fees, Value.int s_looks, Value.ref m_words, Value.int s_end, Value.int s_next, Value.int s_kind, Value.int s_which, Value.int s_place, Value.int s_read, Value.ref m_told, Value.ref m_breaks, Value.ref m_row, Value.ref m_tried, Value.ref m_steps, Value.ref m_paths])), (m_state, Sum.inl (y_state, 10, Sum.inl f_state)), (m_where, Sum.inl (y_where, 10, Sum.inl f_where)), (m_fire, Sum.inl (y_fire, 10, Sum.inl f_fire)), (m_rule, Sum.inl (y_rule, 8, Sum.inl f_rule))] s.heap.size = A at hD hX ⊢
  have hA : ∀ q : Nat, s.heap.size ≤ q → A q := fun q h => by rw [← hAe]; exact Or.inr h
  have hS : va_S A s.heap s.heap [] := va_S.rf
  have hl := lv_entry ([Value.ref h0, Value.int (nI cq)]) (n := 5) (Nat.le_of_ble_eq_true rfl)
  rw [lg_entry_eq]
  generalize (lg_sl ([Value.ref h0, Value.int (nI cq)]) ++ List.replicate (5 - (lg_sl ([Value.ref h0, Value.int (nI cq)])).length) Slot.unset).toArray = ls at hl ⊢
  have hl : lv_has ls 5 [(0, Value.ref h0), (1, Value.int (nI cq))] := hl
  have hP : va_P D vwCl [(h0, Sum.inr (9, [Value.ref m_tape, Value.int (nI ln), Value.int s_thrown, Value.ref m_rule, Value.ref m_rules, Value.int (nI sn), Value.ref m_stair, Value.int s_readStairs, Value.int s_fault, Value.int s_faultPlace, Value.int (nI w), Value.int (nI h), Value.ref m_low, Value.ref m_high, Value.ref m_crack, Value.int (nI bc), Value.ref m_weight, Value.ref m_fire, Value.ref m_crowd, Value.ref m_state, Value.ref m_where, Value.int s_hours, Value.int s_fees, Value.int s_looks, Value.ref m_words, Value.int s_end, Value.int s_next, Value.int s_kind, Value.int s_which, Value.int s_place, Value.int s_read, Value.ref m_told, Value.ref m_breaks, Value.ref m_row, Value.ref m_tried, Value.ref m_steps, Value.ref m_paths])), (m_state, Sum.inl (y_state, 10, Sum.inl f_state)), (m_where, Sum.inl (y_where, 10, Sum.inl f_where)), (m_fire, Sum.inl (y_fire, 10, Sum.inl f_fire)), (m_rule, Sum.inl (y_rule, 8, Sum.inl f_rule))] s.heap := hP
  refine lv_iconst (v := 0) hx hb dX10_fires_0 (by decide) ?_
  refine lv_istore_n (lv' := [(2, Value.int 0), (0, Value.ref h0), (1, Value.int (nI cq))]) hx hb dX10_fires_1 rfl hl (by decide) rfl (fun ls hl => ?_)
  refine lv_iconst (v := 0) hx hb dX10_fires_2 (by decide) ?_
  refine lv_istore_n (lv' := [(3, Value.int 0), (2, Value.int 0), (0, Value.ref h0), (1, Value.int (nI cq))]) hx hb dX10_fires_3 rfl hl (by decide) rfl (fun ls hl => ?_)
  refine lp_t_fires F hA h0 m_tape ln s_thrown m_rule m_rules sn m_stair s_readStairs s_fault s_faultPlace w h m_low m_high m_crack bc m_weight m_fire m_crowd m_state m_where s_hours s_fees s_looks m_words s_end s_next s_kind s_which s_place s_read m_told m_breaks m_row m_tried m_steps m_paths y_state f_state y_where f_where y_fire f_fire y_rule f_rule cq wh ru (hK.sub [0, 1, 2, 3] rfl) (fun su_1 h_2 H locs hP hD hS ls hl => ?_) _ 0 0 (by omega) (by omega) (by omega) hWm hR8 rfl (Nat.lt_succ_self _) _ _ (hP.sub [0, 1, 2, 3, 4] rfl) (hD.sub [0, 1, 2, 3, 4] (by decide) rfl) hS ls (lv_sub hl [2, 3, 1, 0] rfl)
  have h_2 : su_1 = firS (fun q => nI (ru q)) f_fire f_state wh cq bc := h_2
  refine lv_iload_n hx hb dX10_fires_110 rfl (lv_at hl 0 rfl) ?_
  have hP9 := hP.sub (ws' := [(h0, Sum.inr (9, [Value.ref m_tape, Value.int (nI ln), Value.int s_thrown, Value.ref m_rule, Value.ref m_rules, Value.int (nI sn), Value.ref m_stair, Value.int s_readStairs, Value.int s_fault, Value.int s_faultPlace, Value.int (nI w), Value.int (nI h), Value.ref m_low, Value.ref m_high, Value.ref m_crack, Value.int (nI bc), Value.ref m_weight, Value.ref m_fire, Value.ref m_crowd, Value.ref m_state, Value.ref m_where, Value.int s_hours, Value.int s_fees, Value.int s_looks, Value.ref m_words, Value.int s_end, Value.int s_next, Value.int s_kind, Value.int s_which, Value.int s_place, Value.int s_read, Value.ref m_told, Value.ref m_breaks, Value.ref m_row, Value.ref m_tried, Value.ref m_steps, Value.ref m_paths])), (m_state, Sum.inl (y_state, 10, Sum.inl f_state)), (m_where, Sum.inl (y_where, 10, Sum.inl f_where)), (m_fire, Sum.inl (y_fire, 10, Sum.inl f_fire)), (m_rule, Sum.inl (y_rule, 8, Sum.inl f_rule))]) [0, 1, 2, 3, 4] rfl
  have hD9 := hD.sub (ws' := [(h0, Sum.inr (9, [Value.ref m_tape, Value.int (nI ln), Value.int s_thrown, Value.ref m_rule, Value.ref m_rules, Value.int (nI sn), Value.ref m_stair, Value.int s_readStairs, Value.int s_fault, Value.int s_faultPlace, Value.int (nI w), Value.int (nI h), Value.ref m_low, Value.ref m_high, Value.ref m_crack, Value.int (nI bc), Value.ref m_weight, Value.ref m_fire, Value.ref m_crowd, Value.ref m_state, Value.ref m_where, Value.int s_hours, Value.int s_fees, Value.int s_looks, Value.ref m_words, Value.int s_end, Value.int s_next, Value.int s_kind, Value.int s_which, Value.int s_place, Value.int s_read, Value.ref m_told, Value.ref m_breaks, Value.ref m_row, Value.ref m_tried, Value.ref m_steps, Value.ref m_paths])), (m_state, Sum.inl (y_state, 10, Sum.inl f_state)), (m_where, Sum.inl (y_where, 10, Sum.inl f_where)), (m_fire, Sum.inl (y_fire, 10, Sum.inl f_fire)), (m_rule, Sum.inl (y_rule, 8, Sum.inl f_rule))]) [0, 1, 2, 3, 4] (by decide) rfl
  have hK9 := hK.sub (tys' := []) [] rfl
  refine W.widen (k := 0) (n := 0) (by decide) (by decide) ?_
  exact W.iret (v := su_1) hx hb hr (fun t ht hW => ⟨⟨su_1, (), rfl, h_2, by rw [ht]; exact hP9, va_K.moved hW.alike hK9, hD9⟩, hS.F ht⟩) hS.2.2 dX10_fires_111
