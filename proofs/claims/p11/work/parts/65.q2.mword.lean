set_option maxHeartbeats 4000000 in
set_option maxRecDepth 100000 in
theorem lp_q_word1 {p : Program} {l : Launch} {e : Env} {s : State} {m : MethodId} {args : Array Value} {below : List Frame} {meth : Method} {c : Code} {Q : State → Prop} {A : Nat → Prop} {D : va_G} (F : mFix p s m args c cX10_wordAt 8 RX10) (hA : ∀ q, s.heap.size ≤ q → A q) (h0 : Nat) (m_tape : Nat) (ln : Nat) (s_thrown : Int32) (m_rule : Nat) (m_rules : Nat) (sn : Nat) (m_stair : Nat) (rs : Nat) (s_fault : Int32) (s_faultPlace : Int32) (w : Nat) (h : Nat) (m_low : Nat) (m_high : Nat) (m_crack : Nat) (bc : Nat) (m_weight : Nat) (m_fire : Nat) (m_crowd : Nat) (m_state : Nat) (m_where : Nat) (s_hours : Int32) (s_fees : Int32) (s_looks : Int32) (m_words : Nat) (ne : Nat) (nx : Nat) (s_kind : Int32) (s_which : Int32) (s_place : Int32) (s_read : Int32) (m_told : Nat) (m_breaks : Nat) (m_row : Nat) (m_tried : Nat) (m_steps : Nat) (m_paths : Nat) (y_words : ClassId) (y_tape : ClassId) (f_tape : Nat → Int32) (a : Nat) (b : Nat) (kq : Nat) (hK : va_K D vwCl [(y_words, .int), (y_tape, .int)] s)
    (kx_39 : ∀ (H : Heap) (locs : List Loc), va_P D vwCl [(h0, Sum.inr (9, [Value.ref m_tape, Value.int (nI ln), Value.int s_thrown, Value.ref m_rule, Value.ref m_rules, Value.int (nI sn), Value.ref m_stair, Value.int (nI rs), Value.int s_fault, Value.int s_faultPlace, Value.int (nI w), Value.int (nI h), Value.ref m_low, Value.ref m_high, Value.ref m_crack, Value.int (nI bc), Value.ref m_weight, Value.ref m_fire, Value.ref m_crowd, Value.ref m_state, Value.ref m_where, Value.int s_hours, Value.int s_fees, Value.int s_looks, Value.ref m_words, Value.int (nI ne), Value.int (nI nx), Value.int s_kind, Value.int s_which, Value.int s_place, Value.int s_read, Value.ref m_told, Value.ref m_breaks, Value.ref m_row, Value.ref m_tried, Value.ref m_steps, Value.ref m_paths])), (m_words, Sum.inl (y_words, 36, Sum.inl wF)), (m_tape, Sum.inl (y_tape, 400, Sum.inl f_tape))] H → va_D A [(h0, Sum.inr (9, [Value.ref m_tape, Value.int (nI ln), Value.int s_thrown, Value.ref m_rule, Value.ref m_rules, Value.int (nI sn), Value.ref m_stair, Value.int (nI rs), Value.int s_fault, Value.int s_faultPlace, Value.int (nI w), Value.int (nI h), Value.ref m_low, Value.ref m_high, Value.ref m_crack, Value.int (nI bc), Value.ref m_weight, Value.ref m_fire, Value.ref m_crowd, Value.ref m_state, Value.ref m_where, Value.int s_hours, Value.int s_fees, Value.int s_looks, Value.ref m_words, Value.int (nI ne), Value.int (nI nx), Value.int s_kind, Value.int s_which, Value.int s_place, Value.int s_read, Value.ref m_told, Value.ref m_breaks, Value.ref m_row, Value.ref m_tried, Value.ref m_steps, Value.ref m_paths])), (m_words, Sum.inl (y_words, 36, Sum.inl wF)), (m_tape, Sum.inl (y_tape, 400, Sum.inl f_tape))] → va_S A s.heap H locs → ∀ ls : Array Slot, lv_has ls 8 [(0, Value.ref h0), (1, Value.int (nI a)), (2, Value.int (nI b)), (3, Value.int (nI kq)), (4, Value.int (nI (wst kq))), (5, Value.int (nI (wln kq)))] → W p l e ({ frames := 0, cells := 0, slots := 0, locals := 0 }) s m args below meth c H locs 0 0 Q (F0 m 39 ls [])) :
    ∀ n : Nat, ∀ (nq : Nat), (nq ≤ wln kq) → (kq < 7) → (wln kq ≤ 5) → (wst kq + wln kq < 36) → (wln kq - nq) < n → ∀ (H : Heap) (locs : List Loc), va_P D vwCl [(h0, Sum.inr (9, [Value.ref m_tape, Value.int (nI ln), Value.int s_thrown, Value.ref m_rule, Value.ref m_rules, Value.int (nI sn), Value.ref m_stair, Value.int (nI rs), Value.int s_fault, Value.int s_faultPlace, Value.int (nI w), Value.int (nI h), Value.ref m_low, Value.ref m_high, Value.ref m_crack, Value.int (nI bc), Value.ref m_weight, Value.ref m_fire, Value.ref m_crowd, Value.ref m_state, Value.ref m_where, Value.int s_hours, Value.int s_fees, Value.int s_looks, Value.ref m_words, Value.int (nI ne), Value.int (nI nx), Value.int s_kind, Value.int s_which, Value.int s_place, Value.int s_read, Value.ref m_told, Value.ref m_breaks, Value.ref m_row, Value.ref m_tried, Value.ref m_steps, Value.ref m_paths])), (m_words, Sum.inl (y_words, 36, Sum.inl wF)), (m_tape, Sum.inl (y_tape, 400, Sum.inl f_tape))] H → va_D A [(h0, Sum.inr (9, [Value.ref m_tape, Value.int (nI ln), Value.int s_thrown, Value.ref m_rule, Value.ref m_rules, Value.int (nI sn), Value.ref m_stair, Value.int (nI rs), Value.int s_fault, Value.int s_faultPlace, Value.int (nI w), Value.int (nI h), Value.ref m_low, Value.ref m_high, Value.ref m_crack, Value.int (nI bc), Value.ref m_weight, Value.ref m_fire, Value.ref m_crowd, Value.ref m_state, Value.ref m_where, Value.int s_hours, Value.int s_fees, Value.int s_looks, Value.ref m_words, Value.int (nI ne), Value.int (nI nx), Value.int s_kind, Value.int s_which, Value.int s_place, Value.int s_read, Value.ref m_told, Value.ref m_breaks, Value.ref m_row, Value.ref m_tried, Value.ref m_steps, Value.ref m_paths])), (m_words, Sum.inl (y_words, 36, Sum.inl wF)), (m_tape, Sum.inl (y_tape, 400, Sum.inl f_tape))] → va_S A s.heap H locs → ∀ ls : Array Slot, lv_has ls 8 [(0, Value.ref h0), (1, Value.int (nI a)), (2, Value.int (nI b)), (3, Value.int (nI kq)), (4, Value.int (nI (wst kq))), (5, Value.int (nI nq))] → W p l e ({ frames := 0, cells := 0, slots := 0, locals := 0 }) s m args below meth c H locs 0 0 Q (F0 m 18 ls []) := by
  intro n
  induction n with
  | zero => intro nq hnq hk7 hw5 hwi hn; exact absurd hn (Nat.not_lt_zero _)
  | succ n ih =>
    intro nq hnq hk7 hw5 hwi hn H locs hP hD hS ls hl
    obtain ⟨hx, hb, hml, hown, hts⟩ := id F
    refine lv_aload_n hx hb dX10_wordAt_18 rfl (lv_at hl 0 rfl) ?_
    refine va_get (D := D) (ci := 9) (v := Value.ref m_words) (C := RX10) (T := TX10) (N := 37) hx hb hts inG_X10 hown hK hP 0 rfl rfl 24 (by decide) (hts _ kw_4_219) (fun _ h9 => h9) rfl dX10_wordAt_19 ?_
    refine lv_iload hx hb dX10_wordAt_22 (lv_at hl 4 rfl) ?_
    refine lv_iload hx hb dX10_wordAt_24 (lv_at hl 5 rfl) ?_
    refine lv_iadd hx hb dX10_wordAt_26 ?_
    refine lv_topi (fun z_1 ez_1 => ?_)
    obtain rfl : z_1 = nI (wst kq + nq) := ez_1.trans (nI_add (wst kq) nq)
    refine m_iald hx hb hK hP 1 0 rfl rfl (wst kq + nq) rfl (by omega) (by decide) dX10_wordAt_27 ?_
    refine lv_topi (fun v_2 ev_2 => ?_)
    refine lv_bipush (v := 32) hx hb dX10_wordAt_28 (by decide) ?_
    refine lv_icmp_eq (tgt := 39) hx hb dX10_wordAt_30 (by decide) (fun c_3 => ?_) (fun c_3 => ?_)
    · skip
      have hn2 : nq = wln kq := words_ne kq hk7 nq (by omega) hnq (by rw [← ev_2]; exact c_3)
      subst hn2
      have hl : lv_has ls 8 [(0, Value.ref h0), (1, Value.int (nI a)), (2, Value.int (nI b)), (3, Value.int (nI kq)), (4, Value.int (nI (wst kq))), (5, Value.int (nI (wln kq)))] := hl
      exact kx_39   H locs (hP.sub [0, 1, 2] rfl) (hD.sub [0, 1, 2] (by decide) rfl) hS ls (lv_sub hl [0, 1, 2, 3, 4, 5] rfl)
    · skip
      have hn2 : ¬ nq = wln kq := fun h => c_3 (by rw [ev_2, h]; exact words_eq kq hk7)
      refine lv_iinc (v := nI (nq + 1)) (lv' := [(5, Value.int (nI (nq + 1))), (0, Value.ref h0), (1, Value.int (nI a)), (2, Value.int (nI b)), (3, Value.int (nI kq)), (4, Value.int (nI (wst kq)))]) hx hb dX10_wordAt_33 hl (k := 5) rfl (nI_add nq 1) (by decide) rfl (fun ls hl => ?_)
      refine lv_goto (tgt := 18) hx hb dX10_wordAt_36 (by decide) ?_
      exact ih (nq + 1) (by omega) (by assumption) (by assumption) (by assumption) (by omega) H locs (hP.sub [0, 1, 2] rfl) (hD.sub [0, 1, 2] (by decide) rfl) hS ls (lv_sub hl [1, 2, 3, 4, 5, 0] rfl)
set_option maxHeartbeats 4000000 in
set_option maxRecDepth 100000 in
theorem lp_q_word2 {p : Program} {l : Launch} {e : Env} {s : State} {m : MethodId} {args : Array Value} {below : List Frame} {meth : Method} {c : Code} {Q : State → Prop} {A : Nat → Prop} {D : va_G} (F : mFix p s m args c cX10_wordAt 8 RX10) (hA : ∀ q, s.heap.size ≤ q → A q) (h0 : Nat) (m_tape : Nat) (ln : Nat) (s_thrown : Int32) (m_rule : Nat) (m_rules : Nat) (sn : Nat) (m_stair : Nat) (rs : Nat) (s_fault : Int32) (s_faultPlace : Int32) (w : Nat) (h : Nat) (m_low : Nat) (m_high : Nat) (m_crack : Nat) (bc : Nat) (m_weight : Nat) (m_fire : Nat) (m_crowd : Nat) (m_state : Nat) (m_where : Nat) (s_hours : Int32) (s_fees : Int32) (s_looks : Int32) (m_words : Nat) (ne : Nat) (nx : Nat) (s_kind : Int32) (s_which : Int32) (s_place : Int32) (s_read : Int32) (m_told : Nat) (m_breaks : Nat) (m_row : Nat) (m_tried : Nat) (m_steps : Nat) (m_paths : Nat) (y_words : ClassId) (y_tape : ClassId) (f_tape : Nat → Int32) (a : Nat) (b : Nat) (kq : Nat) (hK : va_K D vwCl [(y_words, .int), (y_tape, .int)] s)
    (kx_104 : ∀ (sa : Int32), ((sa = 1 ∧ wm f_tape a b kq) ∨ (sa = 0 ∧ ¬ wm f_tape a b kq)) → ∀ (H : Heap) (locs : List Loc), va_P D vwCl [(h0, Sum.inr (9, [Value.ref m_tape, Value.int (nI ln), Value.int s_thrown, Value.ref m_rule, Value.ref m_rules, Value.int (nI sn), Value.ref m_stair, Value.int (nI rs), Value.int s_fault, Value.int s_faultPlace, Value.int (nI w), Value.int (nI h), Value.ref m_low, Value.ref m_high, Value.ref m_crack, Value.int (nI bc), Value.ref m_weight, Value.ref m_fire, Value.ref m_crowd, Value.ref m_state, Value.ref m_where, Value.int s_hours, Value.int s_fees, Value.int s_looks, Value.ref m_words, Value.int (nI ne), Value.int (nI nx), Value.int s_kind, Value.int s_which, Value.int s_place, Value.int s_read, Value.ref m_told, Value.ref m_breaks, Value.ref m_row, Value.ref m_tried, Value.ref m_steps, Value.ref m_paths])), (m_words, Sum.inl (y_words, 36, Sum.inl wF)), (m_tape, Sum.inl (y_tape, 400, Sum.inl f_tape))] H → va_D A [(h0, Sum.inr (9, [Value.ref m_tape, Value.int (nI ln), Value.int s_thrown, Value.ref m_rule, Value.ref m_rules, Value.int (nI sn), Value.ref m_stair, Value.int (nI rs), Value.int s_fault, Value.int s_faultPlace, Value.int (nI w), Value.int (nI h), Value.ref m_low, Value.ref m_high, Value.ref m_crack, Value.int (nI bc), Value.ref m_weight, Value.ref m_fire, Value.ref m_crowd, Value.ref m_state, Value.ref m_where, Value.int s_hours, Value.int s_fees, Value.int s_looks, Value.ref m_words, Value.int (nI ne), Value.int (nI nx), Value.int s_kind, Value.int s_which, Value.int s_place, Value.int s_read, Value.ref m_told, Value.ref m_breaks, Value.ref m_row, Value.ref m_tried, Value.ref m_steps, Value.ref m_paths])), (m_words, Sum.inl (y_words, 36, Sum.inl wF)), (m_tape, Sum.inl (y_tape, 400, Sum.inl f_tape))] → va_S A s.heap H locs → ∀ ls : Array Slot, lv_has ls 8 [(0, Value.ref h0), (1, Value.int (nI a)), (2, Value.int (nI b)), (3, Value.int (nI kq)), (4, Value.int (nI (wst kq))), (5, Value.int (nI (wln kq))), (6, Value.int sa)] → W p l e ({ frames := 0, cells := 0, slots := 0, locals := 0 }) s m args below meth c H locs 0 0 Q (F0 m 104 ls [])) :
    ∀ n : Nat, ∀ (sa : Int32) (i : Nat), (i ≤ wln kq) → (a ≤ b) → (b ≤ 400) → (kq < 7) → (wln kq ≤ 5) → (wst kq + wln kq < 36) → ((sa = 1 ∧ wln kq = b - a ∧ ∀ q, q < i → wF (wst kq + q) = f_tape (a + q)) ∨ (sa = 0 ∧ ¬ wm f_tape a b kq)) → (wln kq - i) < n → ∀ (H : Heap) (locs : List Loc), va_P D vwCl [(h0, Sum.inr (9, [Value.ref m_tape, Value.int (nI ln), Value.int s_thrown, Value.ref m_rule, Value.ref m_rules, Value.int (nI sn), Value.ref m_stair, Value.int (nI rs), Value.int s_fault, Value.int s_faultPlace, Value.int (nI w), Value.int (nI h), Value.ref m_low, Value.ref m_high, Value.ref m_crack, Value.int (nI bc), Value.ref m_weight, Value.ref m_fire, Value.ref m_crowd, Value.ref m_state, Value.ref m_where, Value.int s_hours, Value.int s_fees, Value.int s_looks, Value.ref m_words, Value.int (nI ne), Value.int (nI nx), Value.int s_kind, Value.int s_which, Value.int s_place, Value.int s_read, Value.ref m_told, Value.ref m_breaks, Value.ref m_row, Value.ref m_tried, Value.ref m_steps, Value.ref m_paths])), (m_words, Sum.inl (y_words, 36, Sum.inl wF)), (m_tape, Sum.inl (y_tape, 400, Sum.inl f_tape))] H → va_D A [(h0, Sum.inr (9, [Value.ref m_tape, Value.int (nI ln), Value.int s_thrown, Value.ref m_rule, Value.ref m_rules, Value.int (nI sn), Value.ref m_stair, Value.int (nI rs), Value.int s_fault, Value.int s_faultPlace, Value.int (nI w), Value.int (nI h), Value.ref m_low, Value.ref m_high, Value.ref m_crack, Value.int (nI bc), Value.ref m_weight, Value.ref m_fire, Value.ref m_crowd, Value.ref m_state, Value.ref m_where, Value.int s_hours, Value.int s_fees, Value.int s_looks, Value.ref m_words, Value.int (nI ne), Value.int (nI nx), Value.int s_kind, Value.int s_which, Value.int s_place, Value.int s_read, Value.ref m_told, Value.ref m_breaks, Value.ref m_row, Value.ref m_tried, Value.ref m_steps, Value.ref m_paths])), (m_words, Sum.inl (y_words, 36, Sum.inl wF)), (m_tape, Sum.inl (y_tape, 400, Sum.inl f_tape))] → va_S A s.heap H locs → ∀ ls : Array Slot, lv_has ls 8 [(0, Value.ref h0), (1, Value.int (nI a)), (2, Value.int (nI b)), (3, Value.int (nI kq)), (4, Value.int (nI (wst kq))), (5, Value.int (nI (wln kq))), (6, Value.int sa), (7, Value.int (nI i))] → W p l e ({ frames := 0, cells := 0, slots := 0, locals := 0 }) s m args below meth c H locs 0 0 Q (F0 m 57 ls []) := by
  intro n
  induction n with
  | zero => intro sa i hi hab hb4 hk7 hw5 hwi hsa hn; exact absurd hn (Nat.not_lt_zero _)
  | succ n ih =>
    intro sa i hi hab hb4 hk7 hw5 hwi hsa hn H locs hP hD hS ls hl
    obtain ⟨hx, hb, hml, hown, hts⟩ := id F
    refine lv_iload hx hb dX10_wordAt_57 (lv_at hl 7 rfl) ?_
    refine lv_iload hx hb dX10_wordAt_59 (lv_at hl 5 rfl) ?_
    refine lv_icmp_ge (tgt := 104) hx hb dX10_wordAt_61 (by decide) (fun c_1 => ?_) (fun c_1 => ?_)
    · skip
      have c_1n : (wln kq) ≤ i := (nI_leI (by omega) (by omega)).mp c_1
      have c_1 := Int32.not_lt.mpr c_1
      exact kx_104 sa (hsa.imp (fun q => ⟨q.1, wm_of hk7 q.2.1 (fun q9 h9 => ((wF_stB kq hk7 q9 h9).symm.trans (q.2.2 q9 (by omega))).symm)⟩) id) H locs (hP.sub [0, 1, 2] rfl) (hD.sub [0, 1, 2] (by decide) rfl) hS ls (lv_sub hl [0, 1, 2, 3, 4, 5, 6] rfl)
    · skip
      have c_1n : i < (wln kq) := nb_le (by omega) (by omega) c_1
      have c_1 := Int32.not_le.mp c_1
      refine lv_iload hx hb dX10_wordAt_64 (lv_at hl 6 rfl) ?_
      refine lv_if_eq (tgt := 104) hx hb dX10_wordAt_66 (by decide) (fun c_2 => ?_) (fun c_2 => ?_)
      · skip
        exact kx_104 sa (Or.inr (hsa.resolve_left (fun q => absurd (q.1.symm.trans c_2) (by decide)))) H locs (hP.sub [0, 1, 2] rfl) (hD.sub [0, 1, 2] (by decide) rfl) hS ls (lv_sub hl [0, 1, 2, 3, 4, 5, 6] rfl)
      · skip
        obtain ⟨hs1, hsq, hsp⟩ := hsa.resolve_right (fun q => c_2 q.1)
        refine lv_aload_n hx hb dX10_wordAt_69 rfl (lv_at hl 0 rfl) ?_
        refine va_get (D := D) (ci := 9) (v := Value.ref m_words) (C := RX10) (T := TX10) (N := 37) hx hb hts inG_X10 hown hK hP 0 rfl rfl 24 (by decide) (hts _ kw_4_219) (fun _ h9 => h9) rfl dX10_wordAt_70 ?_
        refine lv_iload hx hb dX10_wordAt_73 (lv_at hl 4 rfl) ?_
        refine lv_iload hx hb dX10_wordAt_75 (lv_at hl 7 rfl) ?_
        refine lv_iadd hx hb dX10_wordAt_77 ?_
        refine lv_topi (fun z_3 ez_3 => ?_)
        obtain rfl : z_3 = nI (wst kq + i) := ez_3.trans (nI_add (wst kq) i)
        refine m_iald hx hb hK hP 1 0 rfl rfl (wst kq + i) rfl (by omega) (by decide) dX10_wordAt_78 ?_
        refine lv_topi (fun v_4 ev_4 => ?_)
        refine lv_aload_n hx hb dX10_wordAt_79 rfl (lv_at hl 0 rfl) ?_
        refine va_get (D := D) (ci := 9) (v := Value.ref m_tape) (C := RX10) (T := TX10) (N := 37) hx hb hts inG_X10 hown hK hP 0 rfl rfl 0 (by decide) (hts _ kw_4_195) (fun _ h9 => h9) rfl dX10_wordAt_80 ?_
        refine lv_iload_n hx hb dX10_wordAt_83 rfl (lv_at hl 1 rfl) ?_
        refine lv_iload hx hb dX10_wordAt_84 (lv_at hl 7 rfl) ?_
        refine lv_iadd hx hb dX10_wordAt_86 ?_
        refine lv_topi (fun z_5 ez_5 => ?_)
        obtain rfl : z_5 = nI (a + i) := ez_5.trans (nI_add a i)
        refine m_iald hx hb hK hP 2 1 rfl rfl (a + i) rfl (by omega) (by decide) dX10_wordAt_87 ?_
        refine lv_topi (fun v_6 ev_6 => ?_)
        refine lv_icmp_ne (tgt := 95) hx hb dX10_wordAt_88 (by decide) (fun c_7 => ?_) (fun c_7 => ?_)
        · skip
          refine lv_iconst (v := 0) hx hb dX10_wordAt_95 (by decide) ?_
          refine lv_istore (lv' := [(6, Value.int 0), (0, Value.ref h0), (1, Value.int (nI a)), (2, Value.int (nI b)), (3, Value.int (nI kq)), (4, Value.int (nI (wst kq))), (5, Value.int (nI (wln kq))), (7, Value.int (nI i))]) hx hb dX10_wordAt_96 hl (by decide) rfl (fun ls hl => ?_)
          refine lv_iinc (v := nI (i + 1)) (lv' := [(7, Value.int (nI (i + 1))), (6, Value.int 0), (0, Value.ref h0), (1, Value.int (nI a)), (2, Value.int (nI b)), (3, Value.int (nI kq)), (4, Value.int (nI (wst kq))), (5, Value.int (nI (wln kq)))]) hx hb dX10_wordAt_98 hl (k := 7) rfl (nI_add i 1) (by decide) rfl (fun ls hl => ?_)
          refine lv_goto (tgt := 57) hx hb dX10_wordAt_101 (by decide) ?_
          exact ih 0 (i + 1) (by omega) (by omega) (by omega) hk7 hw5 hwi (Or.inr ⟨rfl, fun q => c_7 (by rw [ev_4, ev_6]; exact wm_at hk7 q (by omega))⟩) (by omega) H locs (hP.sub [0, 1, 2] rfl) (hD.sub [0, 1, 2] (by decide) rfl) hS ls (lv_sub hl [2, 3, 4, 5, 6, 7, 1, 0] rfl)
        · skip
          refine lv_iconst (v := 1) hx hb dX10_wordAt_91 (by decide) ?_
          refine lv_goto (tgt := 96) hx hb dX10_wordAt_92 (by decide) ?_
          refine lv_istore (lv' := [(6, Value.int 1), (0, Value.ref h0), (1, Value.int (nI a)), (2, Value.int (nI b)), (3, Value.int (nI kq)), (4, Value.int (nI (wst kq))), (5, Value.int (nI (wln kq))), (7, Value.int (nI i))]) hx hb dX10_wordAt_96 hl (by decide) rfl (fun ls hl => ?_)
          refine lv_iinc (v := nI (i + 1)) (lv' := [(7, Value.int (nI (i + 1))), (6, Value.int 1), (0, Value.ref h0), (1, Value.int (nI a)), (2, Value.int (nI b)), (3, Value.int (nI kq)), (4, Value.int (nI (wst kq))), (5, Value.int (nI (wln kq)))]) hx hb dX10_wordAt_98 hl (k := 7) rfl (nI_add i 1) (by decide) rfl (fun ls hl => ?_)
          refine lv_goto (tgt := 57) hx hb dX10_wordAt_101 (by decide) ?_
          exact ih 1 (i + 1) (by omega) (by omega) (by omega) hk7 hw5 hwi (Or.inl ⟨rfl, hsq, fun q hq => by rcases (show q < i ∨ q = i by omega) with h9 | rfl; exact hsp q h9; rw [← ev_4, ← ev_6]; exact c_7⟩) (by omega) H locs (hP.sub [0, 1, 2] rfl) (hD.sub [0, 1, 2] (by decide) rfl) hS ls (lv_sub hl [2, 3, 4, 5, 6, 7, 1, 0] rfl)
set_option maxHeartbeats 4000000 in
set_option maxRecDepth 100000 in
theorem lp_q_word {p : Program} {l : Launch} {e : Env} {s : State} {m : MethodId} {args : Array Value} {below : List Frame} {meth : Method} {c : Code} {Q : State → Prop} {A : Nat → Prop} {D : va_G} (F : mFix p s m args c cX10_wordAt 8 RX10) (hA : ∀ q, s.heap.size ≤ q → A q) (h0 : Nat) (m_tape : Nat) (ln : Nat) (s_thrown : Int32) (m_rule : Nat) (m_rules : Nat) (sn : Nat) (m_stair : Nat) (rs : Nat) (s_fault : Int32) (s_faultPlace : Int32) (w : Nat) (h : Nat) (m_low : Nat) (m_high : Nat) (m_crack : Nat) (bc : Nat) (m_weight : Nat) (m_fire : Nat) (m_crowd : Nat) (m_state : Nat) (m_where : Nat) (s_hours : Int32) (s_fees : Int32) (s_looks : Int32) (m_words : Nat) (ne : Nat) (nx : Nat) (s_kind : Int32) (s_which : Int32) (s_place : Int32) (s_read : Int32) (m_told : Nat) (m_breaks : Nat) (m_row : Nat) (m_tried : Nat) (m_steps : Nat) (m_paths : Nat) (y_words : ClassId) (y_tape : ClassId) (f_tape : Nat → Int32) (a : Nat) (b : Nat) (WQ : Nat) (hK : va_K D vwCl [(y_words, .int), (y_tape, .int)] s)
    (kx_109 : (WQ < 7) → ∀ (H : Heap) (locs : List Loc), va_P D vwCl [(h0, Sum.inr (9, [Value.ref m_tape, Value.int (nI ln), Value.int s_thrown, Value.ref m_rule, Value.ref m_rules, Value.int (nI sn), Value.ref m_stair, Value.int (nI rs), Value.int s_fault, Value.int s_faultPlace, Value.int (nI w), Value.int (nI h), Value.ref m_low, Value.ref m_high, Value.ref m_crack, Value.int (nI bc), Value.ref m_weight, Value.ref m_fire, Value.ref m_crowd, Value.ref m_state, Value.ref m_where, Value.int s_hours, Value.int s_fees, Value.int s_looks, Value.ref m_words, Value.int (nI ne), Value.int (nI nx), Value.int s_kind, Value.int s_which, Value.int s_place, Value.int s_read, Value.ref m_told, Value.ref m_breaks, Value.ref m_row, Value.ref m_tried, Value.ref m_steps, Value.ref m_paths])), (m_words, Sum.inl (y_words, 36, Sum.inl wF)), (m_tape, Sum.inl (y_tape, 400, Sum.inl f_tape))] H → va_D A [(h0, Sum.inr (9, [Value.ref m_tape, Value.int (nI ln), Value.int s_thrown, Value.ref m_rule, Value.ref m_rules, Value.int (nI sn), Value.ref m_stair, Value.int (nI rs), Value.int s_fault, Value.int s_faultPlace, Value.int (nI w), Value.int (nI h), Value.ref m_low, Value.ref m_high, Value.ref m_crack, Value.int (nI bc), Value.ref m_weight, Value.ref m_fire, Value.ref m_crowd, Value.ref m_state, Value.ref m_where, Value.int s_hours, Value.int s_fees, Value.int s_looks, Value.ref m_words, Value.int (nI ne), Value.int (nI nx), Value.int s_kind, Value.int s_which, Value.int s_place, Value.int s_read, Value.ref m_told, Value.ref m_breaks, Value.ref m_row, Value.ref m_tried, Value.ref m_steps, Value.ref m_paths])), (m_words, Sum.inl (y_words, 36, Sum.inl wF)), (m_tape, Sum.inl (y_tape, 400, Sum.inl f_tape))] → va_S A s.heap H locs → ∀ ls : Array Slot, lv_has ls 8 [(3, Value.int (nI WQ))] → W p l e ({ frames := 0, cells := 0, slots := 0, locals := 0 }) s m args below meth c H locs 0 0 Q (F0 m 109 ls []))
    (kx_126 : (¬ WQ < 7) → ∀ (H : Heap) (locs : List Loc), va_P D vwCl [(h0, Sum.inr (9, [Value.ref m_tape, Value.int (nI ln), Value.int s_thrown, Value.ref m_rule, Value.ref m_rules, Value.int (nI sn), Value.ref m_stair, Value.int (nI rs), Value.int s_fault, Value.int s_faultPlace, Value.int (nI w), Value.int (nI h), Value.ref m_low, Value.ref m_high, Value.ref m_crack, Value.int (nI bc), Value.ref m_weight, Value.ref m_fire, Value.ref m_crowd, Value.ref m_state, Value.ref m_where, Value.int s_hours, Value.int s_fees, Value.int s_looks, Value.ref m_words, Value.int (nI ne), Value.int (nI nx), Value.int s_kind, Value.int s_which, Value.int s_place, Value.int s_read, Value.ref m_told, Value.ref m_breaks, Value.ref m_row, Value.ref m_tried, Value.ref m_steps, Value.ref m_paths])), (m_words, Sum.inl (y_words, 36, Sum.inl wF)), (m_tape, Sum.inl (y_tape, 400, Sum.inl f_tape))] H → va_D A [(h0, Sum.inr (9, [Value.ref m_tape, Value.int (nI ln), Value.int s_thrown, Value.ref m_rule, Value.ref m_rules, Value.int (nI sn), Value.ref m_stair, Value.int (nI rs), Value.int s_fault, Value.int s_faultPlace, Value.int (nI w), Value.int (nI h), Value.ref m_low, Value.ref m_high, Value.ref m_crack, Value.int (nI bc), Value.ref m_weight, Value.ref m_fire, Value.ref m_crowd, Value.ref m_state, Value.ref m_where, Value.int s_hours, Value.int s_fees, Value.int s_looks, Value.ref m_words, Value.int (nI ne), Value.int (nI nx), Value.int s_kind, Value.int s_which, Value.int s_place, Value.int s_read, Value.ref m_told, Value.ref m_breaks, Value.ref m_row, Value.ref m_tried, Value.ref m_steps, Value.ref m_paths])), (m_words, Sum.inl (y_words, 36, Sum.inl wF)), (m_tape, Sum.inl (y_tape, 400, Sum.inl f_tape))] → va_S A s.heap H locs → ∀ ls : Array Slot, lv_has ls 8 [] → W p l e ({ frames := 0, cells := 0, slots := 0, locals := 0 }) s m args below meth c H locs 0 0 Q (F0 m 126 ls [])) :
    ∀ n : Nat, ∀ (kq : Nat), (kq ≤ 7) → (a ≤ b) → (b ≤ 400) → (run (fun k => !cWm f_tape a b k) 7 kq = WQ) → (7 - kq) < n → ∀ (H : Heap) (locs : List Loc), va_P D vwCl [(h0, Sum.inr (9, [Value.ref m_tape, Value.int (nI ln), Value.int s_thrown, Value.ref m_rule, Value.ref m_rules, Value.int (nI sn), Value.ref m_stair, Value.int (nI rs), Value.int s_fault, Value.int s_faultPlace, Value.int (nI w), Value.int (nI h), Value.ref m_low, Value.ref m_high, Value.ref m_crack, Value.int (nI bc), Value.ref m_weight, Value.ref m_fire, Value.ref m_crowd, Value.ref m_state, Value.ref m_where, Value.int s_hours, Value.int s_fees, Value.int s_looks, Value.ref m_words, Value.int (nI ne), Value.int (nI nx), Value.int s_kind, Value.int s_which, Value.int s_place, Value.int s_read, Value.ref m_told, Value.ref m_breaks, Value.ref m_row, Value.ref m_tried, Value.ref m_steps, Value.ref m_paths])), (m_words, Sum.inl (y_words, 36, Sum.inl wF)), (m_tape, Sum.inl (y_tape, 400, Sum.inl f_tape))] H → va_D A [(h0, Sum.inr (9, [Value.ref m_tape, Value.int (nI ln), Value.int s_thrown, Value.ref m_rule, Value.ref m_rules, Value.int (nI sn), Value.ref m_stair, Value.int (nI rs), Value.int s_fault, Value.int s_faultPlace, Value.int (nI w), Value.int (nI h), Value.ref m_low, Value.ref m_high, Value.ref m_crack, Value.int (nI bc), Value.ref m_weight, Value.ref m_fire, Value.ref m_crowd, Value.ref m_state, Value.ref m_where, Value.int s_hours, Value.int s_fees, Value.int s_looks, Value.ref m_words, Value.int (nI ne), Value.int (nI nx), Value.int s_kind, Value.int s_which, Value.int s_place, Value.int s_read, Value.ref m_told, Value.ref m_breaks, Value.ref m_row, Value.ref m_tried, Value.ref m_steps, Value.ref m_paths])), (m_words, Sum.inl (y_words, 36, Sum.inl wF)), (m_tape, Sum.inl (y_tape, 400, Sum.inl f_tape))] → va_S A s.heap H locs → ∀ ls : Array Slot, lv_has ls 8 [(0, Value.ref h0), (1, Value.int (nI a)), (2, Value.int (nI b)), (3, Value.int (nI kq)), (4, Value.int (nI (wst kq)))] → W p l e ({ frames := 0, cells := 0, slots := 0, locals := 0 }) s m args below meth c H locs 0 0 Q (F0 m 5 ls []) := by
  intro n
  induction n with
  | zero => intro kq hk hab hb4 hw7 hn; exact absurd hn (Nat.not_lt_zero _)
  | succ n ih =>
    intro kq hk hab hb4 hw7 hn H locs hP hD hS ls hl
    obtain ⟨hx, hb, hml, hown, hts⟩ := id F
    have hwl := wst_le kq hk
    refine lv_iload hx hb dX10_wordAt_5 (lv_at hl 4 rfl) ?_
    refine lv_aload_n hx hb dX10_wordAt_7 rfl (lv_at hl 0 rfl) ?_
    refine va_get (D := D) (ci := 9) (v := Value.ref m_words) (C := RX10) (T := TX10) (N := 37) hx hb hts inG_X10 hown hK hP 0 rfl rfl 24 (by decide) (hts _ kw_4_219) (fun _ h9 => h9) rfl dX10_wordAt_8 ?_
    refine va_alen hx hb hK hP 1 0 rfl rfl (v := 36) rfl dX10_wordAt_11 ?_
    refine lv_icmp_ge (tgt := 126) hx hb dX10_wordAt_12 (by decide) (fun c_1 => ?_) (fun c_1 => ?_)
    · skip
      have c_1n : 36 ≤ (wst kq) := (nI_leI (by omega) (by omega)).mp c_1
      have c_1 := Int32.not_lt.mpr c_1
      have hk9 : 7 ≤ kq := Nat.le_of_not_lt (fun q => absurd (Nat.lt_of_le_of_lt (Nat.le_add_right _ _) (wst_in kq q)) (Nat.not_lt.mpr c_1n))
      have hWe : WQ = kq := hw7.symm.trans (run_st (Or.inl hk9))
      exact kx_126  (by omega) H locs (hP.sub [0, 1, 2] rfl) (hD.sub [0, 1, 2] (by decide) rfl) hS ls (lv_sub hl [] rfl)
    · skip
      have c_1n : (wst kq) < 36 := nb_le (by omega) (by omega) c_1
      have c_1 := Int32.not_le.mp c_1
      have hk7 := wst_7 hk c_1n
      have hw5 := wln_le kq hk7
      have hwi := wst_in kq hk7
      refine lv_iconst (v := 0) hx hb dX10_wordAt_15 (by decide) ?_
      refine lv_istore (lv' := [(5, Value.int 0), (0, Value.ref h0), (1, Value.int (nI a)), (2, Value.int (nI b)), (3, Value.int (nI kq)), (4, Value.int (nI (wst kq)))]) hx hb dX10_wordAt_16 hl (by decide) rfl (fun ls hl => ?_)
      refine lp_q_word1 F hA h0 m_tape ln s_thrown m_rule m_rules sn m_stair rs s_fault s_faultPlace w h m_low m_high m_crack bc m_weight m_fire m_crowd m_state m_where s_hours s_fees s_looks m_words ne nx s_kind s_which s_place s_read m_told m_breaks m_row m_tried m_steps m_paths y_words y_tape f_tape a b kq (hK.sub [0, 1] rfl) (fun   H locs hP hD hS ls hl => ?_) _ 0 (by omega) hk7 hw5 hwi (Nat.lt_succ_self _) _ _ (hP.sub [0, 1, 2] rfl) (hD.sub [0, 1, 2] (by decide) rfl) hS ls (lv_sub hl [1, 2, 3, 4, 5, 0] rfl)
      refine lv_iload hx hb dX10_wordAt_39 (lv_at hl 5 rfl) ?_
      refine lv_iload_n hx hb dX10_wordAt_41 rfl (lv_at hl 2 rfl) ?_
      refine lv_iload_n hx hb dX10_wordAt_42 rfl (lv_at hl 1 rfl) ?_
      refine lv_isub hx hb dX10_wordAt_43 ?_
      refine lv_topi (fun z_2 ez_2 => ?_)
      obtain rfl : z_2 = nI (b - a) := ez_2.trans (nI_subN hab)
      refine lv_icmp_ne (tgt := 51) hx hb dX10_wordAt_44 (by decide) (fun c_3 => ?_) (fun c_3 => ?_)
      · skip
        have c_3n : ¬ (wln kq) = (b - a) := nb_eq (by omega) (by omega) c_3
        refine lv_iconst (v := 0) hx hb dX10_wordAt_51 (by decide) ?_
        refine lv_istore (lv' := [(6, Value.int 0), (0, Value.ref h0), (1, Value.int (nI a)), (2, Value.int (nI b)), (3, Value.int (nI kq)), (4, Value.int (nI (wst kq))), (5, Value.int (nI (wln kq)))]) hx hb dX10_wordAt_52 hl (by decide) rfl (fun ls hl => ?_)
        refine lv_iconst (v := 0) hx hb dX10_wordAt_54 (by decide) ?_
        refine lv_istore (lv' := [(7, Value.int 0), (6, Value.int 0), (0, Value.ref h0), (1, Value.int (nI a)), (2, Value.int (nI b)), (3, Value.int (nI kq)), (4, Value.int (nI (wst kq))), (5, Value.int (nI (wln kq)))]) hx hb dX10_wordAt_55 hl (by decide) rfl (fun ls hl => ?_)
        refine lp_q_word2 F hA h0 m_tape ln s_thrown m_rule m_rules sn m_stair rs s_fault s_faultPlace w h m_low m_high m_crack bc m_weight m_fire m_crowd m_state m_where s_hours s_fees s_looks m_words ne nx s_kind s_which s_place s_read m_told m_breaks m_row m_tried m_steps m_paths y_words y_tape f_tape a b kq (hK.sub [0, 1] rfl) (fun sa_4 h_5 H locs hP hD hS ls hl => ?_) _ 0 0 (by omega) (by omega) (by omega) hk7 hw5 hwi (Or.inr ⟨rfl, fun q => c_3n (wm_len hk7 q)⟩) (Nat.lt_succ_self _) _ _ (hP.sub [0, 1, 2] rfl) (hD.sub [0, 1, 2] (by decide) rfl) hS ls (lv_sub hl [2, 3, 4, 5, 6, 7, 1, 0] rfl)
        have h_5 : (sa_4 = 1 ∧ wm f_tape a b kq) ∨ (sa_4 = 0 ∧ ¬ wm f_tape a b kq) := h_5
        refine lv_iload hx hb dX10_wordAt_104 (lv_at hl 6 rfl) ?_
        refine lv_if_eq (tgt := 111) hx hb dX10_wordAt_106 (by decide) (fun c_6 => ?_) (fun c_6 => ?_)
        · skip
          have hm9 := (h_5.resolve_left (fun q => absurd (q.1.symm.trans c_6) (by decide))).2
          refine lv_iload hx hb dX10_wordAt_111 (lv_at hl 4 rfl) ?_
          refine lv_iload hx hb dX10_wordAt_113 (lv_at hl 5 rfl) ?_
          refine lv_iconst (v := 1) hx hb dX10_wordAt_115 (by decide) ?_
          refine lv_iadd hx hb dX10_wordAt_116 ?_
          refine lv_topi (fun z_7 ez_7 => ?_)
          obtain rfl : z_7 = nI (wln kq + 1) := ez_7.trans (nI_add (wln kq) 1)
          refine lv_iadd hx hb dX10_wordAt_117 ?_
          refine lv_topi (fun z_8 ez_8 => ?_)
          obtain rfl : z_8 = nI (wst (kq + 1)) := ez_8.trans ((nI_add _ _).trans (congrArg nI (wst_s kq hk7)))
          refine lv_istore (lv' := [(4, Value.int (nI (wst (kq + 1)))), (0, Value.ref h0), (1, Value.int (nI a)), (2, Value.int (nI b)), (3, Value.int (nI kq)), (5, Value.int (nI (wln kq))), (6, Value.int sa_4)]) hx hb dX10_wordAt_118 hl (by decide) rfl (fun ls hl => ?_)
          refine lv_iinc (v := nI (kq + 1)) (lv' := [(3, Value.int (nI (kq + 1))), (4, Value.int (nI (wst (kq + 1)))), (0, Value.ref h0), (1, Value.int (nI a)), (2, Value.int (nI b)), (5, Value.int (nI (wln kq))), (6, Value.int sa_4)]) hx hb dX10_wordAt_120 hl (k := 4) rfl (nI_add kq 1) (by decide) rfl (fun ls hl => ?_)
          refine lv_goto (tgt := 5) hx hb dX10_wordAt_123 (by decide) ?_
          exact ih (kq + 1) (by omega) (by omega) (by omega) ((run_go (p := fun k => !cWm f_tape a b k) (by omega) (by simp [cWm_f hm9])).symm.trans hw7) (by omega) H locs (hP.sub [0, 1, 2] rfl) (hD.sub [0, 1, 2] (by decide) rfl) hS ls (lv_sub hl [2, 3, 4, 0, 1] rfl)
        · skip
          have hm9 := (h_5.resolve_right (fun q => c_6 q.1)).2
          obtain rfl : WQ = kq := hw7.symm.trans (run_st (Or.inr (by rw [cWm_t hm9]; rfl)))
          have hl : lv_has ls 8 [(0, Value.ref h0), (1, Value.int (nI a)), (2, Value.int (nI b)), (3, Value.int (nI WQ)), (4, Value.int (nI (wst WQ))), (5, Value.int (nI (wln WQ))), (6, Value.int sa_4)] := hl
          exact kx_109  (by omega) H locs (hP.sub [0, 1, 2] rfl) (hD.sub [0, 1, 2] (by decide) rfl) hS ls (lv_sub hl [3] rfl)
      · skip
        have c_3n : (wln kq) = (b - a) := (nI_eq (by omega) (by omega)).mp c_3
        refine lv_iconst (v := 1) hx hb dX10_wordAt_47 (by decide) ?_
        refine lv_goto (tgt := 52) hx hb dX10_wordAt_48 (by decide) ?_
        refine lv_istore (lv' := [(6, Value.int 1), (0, Value.ref h0), (1, Value.int (nI a)), (2, Value.int (nI b)), (3, Value.int (nI kq)), (4, Value.int (nI (wst kq))), (5, Value.int (nI (wln kq)))]) hx hb dX10_wordAt_52 hl (by decide) rfl (fun ls hl => ?_)
        refine lv_iconst (v := 0) hx hb dX10_wordAt_54 (by decide) ?_
        refine lv_istore (lv' := [(7, Value.int 0), (6, Value.int 1), (0, Value.ref h0), (1, Value.int (nI a)), (2, Value.int (nI b)), (3, Value.int (nI kq)), (4, Value.int (nI (wst kq))), (5, Value.int (nI (wln kq)))]) hx hb dX10_wordAt_55 hl (by decide) rfl (fun ls hl => ?_)
        refine lp_q_word2 F hA h0 m_tape ln s_thrown m_rule m_rules sn m_stair rs s_fault s_faultPlace w h m_low m_high m_crack bc m_weight m_fire m_crowd m_state m_where s_hours s_fees s_looks m_words ne nx s_kind s_which s_place s_read m_told m_breaks m_row m_tried m_steps m_paths y_words y_tape f_tape a b kq (hK.sub [0, 1] rfl) (fun sa_9 h_10 H locs hP hD hS ls hl => ?_) _ 1 0 (by omega) (by omega) (by omega) hk7 hw5 hwi (Or.inl ⟨rfl, c_3n, fun q hq => absurd hq (Nat.not_lt_zero q)⟩) (Nat.lt_succ_self _) _ _ (hP.sub [0, 1, 2] rfl) (hD.sub [0, 1, 2] (by decide) rfl) hS ls (lv_sub hl [2, 3, 4, 5, 6, 7, 1, 0] rfl)
        have h_10 : (sa_9 = 1 ∧ wm f_tape a b kq) ∨ (sa_9 = 0 ∧ ¬ wm f_tape a b kq) := h_10
        refine lv_iload hx hb dX10_wordAt_104 (lv_at hl 6 rfl) ?_
        refine lv_if_eq (tgt := 111) hx hb dX10_wordAt_106 (by decide) (fun c_11 => ?_) (fun c_11 => ?_)
        · skip
          have hm9 := (h_10.resolve_left (fun q => absurd (q.1.symm.trans c_11) (by decide))).2
          refine lv_iload hx hb dX10_wordAt_111 (lv_at hl 4 rfl) ?_
          refine lv_iload hx hb dX10_wordAt_113 (lv_at hl 5 rfl) ?_
          refine lv_iconst (v := 1) hx hb dX10_wordAt_115 (by decide) ?_
          refine lv_iadd hx hb dX10_wordAt_116 ?_
          refine lv_topi (fun z_12 ez_12 => ?_)
          obtain rfl : z_12 = nI (wln kq + 1) := ez_12.trans (nI_add (wln kq) 1)
          refine lv_iadd hx hb dX10_wordAt_117 ?_
          refine lv_topi (fun z_13 ez_13 => ?_)
          obtain rfl : z_13 = nI (wst (kq + 1)) := ez_13.trans ((nI_add _ _).trans (congrArg nI (wst_s kq hk7)))
          refine lv_istore (lv' := [(4, Value.int (nI (wst (kq + 1)))), (0, Value.ref h0), (1, Value.int (nI a)), (2, Value.int (nI b)), (3, Value.int (nI kq)), (5, Value.int (nI (wln kq))), (6, Value.int sa_9)]) hx hb dX10_wordAt_118 hl (by decide) rfl (fun ls hl => ?_)
          refine lv_iinc (v := nI (kq + 1)) (lv' := [(3, Value.int (nI (kq + 1))), (4, Value.int (nI (wst (kq + 1)))), (0, Value.ref h0), (1, Value.int (nI a)), (2, Value.int (nI b)), (5, Value.int (nI (wln kq))), (6, Value.int sa_9)]) hx hb dX10_wordAt_120 hl (k := 4) rfl (nI_add kq 1) (by decide) rfl (fun ls hl => ?_)
          refine lv_goto (tgt := 5) hx hb dX10_wordAt_123 (by decide) ?_
          exact ih (kq + 1) (by omega) (by omega) (by omega) ((run_go (p := fun k => !cWm f_tape a b k) (by omega) (by simp [cWm_f hm9])).symm.trans hw7) (by omega) H locs (hP.sub [0, 1, 2] rfl) (hD.sub [0, 1, 2] (by decide) rfl) hS ls (lv_sub hl [2, 3, 4, 0, 1] rfl)
        · skip
          have hm9 := (h_10.resolve_right (fun q => c_11 q.1)).2
          obtain rfl : WQ = kq := hw7.symm.trans (run_st (Or.inr (by rw [cWm_t hm9]; rfl)))
          have hl : lv_has ls 8 [(0, Value.ref h0), (1, Value.int (nI a)), (2, Value.int (nI b)), (3, Value.int (nI WQ)), (4, Value.int (nI (wst WQ))), (5, Value.int (nI (wln WQ))), (6, Value.int sa_9)] := hl
          exact kx_109  (by omega) H locs (hP.sub [0, 1, 2] rfl) (hD.sub [0, 1, 2] (by decide) rfl) hS ls (lv_sub hl [3] rfl)
set_option maxHeartbeats 4000000 in
set_option maxRecDepth 100000 in
theorem q_wordAt (l : Launch) (D : va_G) (h0 : Nat) (m_tape : Nat) (ln : Nat) (s_thrown : Int32) (m_rule : Nat) (m_rules : Nat) (sn : Nat) (m_stair : Nat) (rs : Nat) (s_fault : Int32) (s_faultPlace : Int32) (w : Nat) (h : Nat) (m_low : Nat) (m_high : Nat) (m_crack : Nat) (bc : Nat) (m_weight : Nat) (m_fire : Nat) (m_crowd : Nat) (m_state : Nat) (m_where : Nat) (s_hours : Int32) (s_fees : Int32) (s_looks : Int32) (m_words : Nat) (ne : Nat) (nx : Nat) (s_kind : Int32) (s_which : Int32) (s_place : Int32) (s_read : Int32) (m_told : Nat) (m_breaks : Nat) (m_row : Nat) (m_tried : Nat) (m_steps : Nat) (m_paths : Nat) (y_words : ClassId) (y_tape : ClassId) (f_tape : Nat → Int32) (a : Nat) (b : Nat) (hab : a ≤ b) (hb4 : b ≤ 400) : cI l yX10_wordAt (.code yX10_wordAt cX10_wordAt 8 (some .int)) ({ frames := 0, cells := 0, slots := 0, locals := 0 }) D [(y_words, .int), (y_tape, .int)] [(h0, Sum.inr (9, [Value.ref m_tape, Value.int (nI ln), Value.int s_thrown, Value.ref m_rule, Value.ref m_rules, Value.int (nI sn), Value.ref m_stair, Value.int (nI rs), Value.int s_fault, Value.int s_faultPlace, Value.int (nI w), Value.int (nI h), Value.ref m_low, Value.ref m_high, Value.ref m_crack, Value.int (nI bc), Value.ref m_weight, Value.ref m_fire, Value.ref m_crowd, Value.ref m_state, Value.ref m_where, Value.int s_hours, Value.int s_fees, Value.int s_looks, Value.ref m_words, Value.int (nI ne), Value.int (nI nx), Value.int s_kind, Value.int s_which, Value.int s_place, Value.int s_read, Value.ref m_told, Value.ref m_breaks, Value.ref m_row, Value.ref m_tried, Value.ref m_steps, Value.ref m_paths])), (m_words, Sum.inl (y_words, 36, Sum.inl wF)), (m_tape, Sum.inl (y_tape, 400, Sum.inl f_tape))] xT [Value.ref h0, Value.int (nI a), Value.int (nI b)] (S := Unit) (fun r _ => (r = (-1) ∧ ¬ wI f_tape a b < 7) ∨ (r = nI (wI f_tape a b) ∧ wI f_tape a b < 7)) (fun _ => []) (fun _ => [(h0, Sum.inr (9, [Value.ref m_tape, Value.int (nI ln), Value.int s_thrown, Value.ref m_rule, Value.ref m_rules, Value.int (nI sn), Value.ref m_stair, Value.int (nI rs), Value.int s_fault, Value.int s_faultPlace, Value.int (nI w), Value.int (nI h), Value.ref m_low, Value.ref m_high, Value.ref m_crack, Value.int (nI bc), Value.ref m_weight, Value.ref m_fire, Value.ref m_crowd, Value.ref m_state, Value.ref m_where, Value.int s_hours, Value.int s_fees, Value.int s_looks, Value.ref m_words, Value.int (nI ne), Value.int (nI nx), Value.int s_kind, Value.int s_which, Value.int s_place, Value.int s_read, Value.ref m_told, Value.ref m_breaks, Value.ref m_row, Value.ref m_tried, Value.ref m_steps, Value.ref m_paths])), (m_words, Sum.inl (y_words, 36, Sum.inl wF)), (m_tape, Sum.inl (y_tape, 400, Sum.inl f_tape))]) := by
  intro sz
  refine Met.ofW (cc := cX10_wordAt) (maxL := 8) (ret := (some .int)) (by decide) rfl ?_
  intro p e s m args below meth c s₁ B hml hv
  obtain ⟨rfl, hsz, hP, hK, hD0, hX⟩ := hv
  have hx := B.exec
  have hb := B.bytes
  have hr := B.returns
  have hts0 := atoms_spec (ws := .code yX10_wordAt cX10_wordAt 8 (some .int) :: gw) B.pre
  have hts := fun (w : Cond) (h : w ∈ gw) => hts0 w (List.mem_cons_of_mem _ h)
  have hown : s.vm.findClass RX10 = some m.cls := findClass_of_methodNamed B.named
  have hlocks := B.notSynchronized
  have F : mFix p s m _ c cX10_wordAt 8 RX10 := ⟨hx, hb, hml, hown, hts⟩
  subst hsz
  have hD := hD0.self (sz := s.heap.size)
  generalize hAe : va_A [(h0, Sum.inr (9, [Value.ref m_tape, Value.int (nI ln), Value.int s_thrown, Value.ref m_rule, Value.ref m_rules, Value.int (nI sn), Value.ref m_stair, Value.int (nI rs), Value.int s_fault, Value.int s_faultPlace, Value.int (nI w), Value.int (nI h), Value.ref m_low, Value.ref m_high, Value.ref m_crack, Value.int (nI bc), Value.ref m_weight, Value.ref m_fire, Value.ref m_crowd, Value.ref m_state, Value.ref m_where, Value.int s_hours, Value.int s_fees, Value.int s_looks, Value.ref m_words, Value.int (nI ne), Value.int (nI nx), Value.int s_kind, Value.int s_which, Value.int s_place, Value.int s_read, Value.ref m_told, Value.ref m_breaks, Value.ref m_row, Value.ref m_tried, Value.ref m_steps, Value.ref m_paths])), (m_words, Sum.inl (y_words, 36, Sum.inl wF)), (m_tape, Sum.inl (y_tape, 400, Sum.inl f_tape))] s.heap.size = A at hD hX ⊢
  have hA : ∀ q : Nat, s.heap.size ≤ q → A q := fun q h => by rw [← hAe]; exact Or.inr h
  have hS : va_S A s.heap s.heap [] := va_S.rf
  have hl := lv_entry ([Value.ref h0, Value.int (nI a), Value.int (nI b)]) (n := 8) (Nat.le_of_ble_eq_true rfl)
  rw [lg_entry_eq]
  generalize (lg_sl ([Value.ref h0, Value.int (nI a), Value.int (nI b)]) ++ List.replicate (8 - (lg_sl ([Value.ref h0, Value.int (nI a), Value.int (nI b)])).length) Slot.unset).toArray = ls at hl ⊢
  have hl : lv_has ls 8 [(0, Value.ref h0), (1, Value.int (nI a)), (2, Value.int (nI b))] := hl
  have hP : va_P D vwCl [(h0, Sum.inr (9, [Value.ref m_tape, Value.int (nI ln), Value.int s_thrown, Value.ref m_rule, Value.ref m_rules, Value.int (nI sn), Value.ref m_stair, Value.int (nI rs), Value.int s_fault, Value.int s_faultPlace, Value.int (nI w), Value.int (nI h), Value.ref m_low, Value.ref m_high, Value.ref m_crack, Value.int (nI bc), Value.ref m_weight, Value.ref m_fire, Value.ref m_crowd, Value.ref m_state, Value.ref m_where, Value.int s_hours, Value.int s_fees, Value.int s_looks, Value.ref m_words, Value.int (nI ne), Value.int (nI nx), Value.int s_kind, Value.int s_which, Value.int s_place, Value.int s_read, Value.ref m_told, Value.ref m_breaks, Value.ref m_row, Value.ref m_tried, Value.ref m_steps, Value.ref m_paths])), (m_words, Sum.inl (y_words, 36, Sum.inl wF)), (m_tape, Sum.inl (y_tape, 400, Sum.inl f_tape))] s.heap := hP
  refine lv_iconst (v := 0) hx hb dX10_wordAt_0 (by decide) ?_
  refine lv_istore_n (lv' := [(3, Value.int 0), (0, Value.ref h0), (1, Value.int (nI a)), (2, Value.int (nI b))]) hx hb dX10_wordAt_1 rfl hl (by decide) rfl (fun ls hl => ?_)
  refine lv_iconst (v := 0) hx hb dX10_wordAt_2 (by decide) ?_
  refine lv_istore (lv' := [(4, Value.int 0), (3, Value.int 0), (0, Value.ref h0), (1, Value.int (nI a)), (2, Value.int (nI b))]) hx hb dX10_wordAt_3 hl (by decide) rfl (fun ls hl => ?_)
  refine lp_q_word F hA h0 m_tape ln s_thrown m_rule m_rules sn m_stair rs s_fault s_faultPlace w h m_low m_high m_crack bc m_weight m_fire m_crowd m_state m_where s_hours s_fees s_looks m_words ne nx s_kind s_which s_place s_read m_told m_breaks m_row m_tried m_steps m_paths y_words y_tape f_tape a b (wI f_tape a b) (hK.sub [0, 1] rfl) (fun  h_1 H locs hP hD hS ls hl => ?_) (fun  h_2 H locs hP hD hS ls hl => ?_) _ 0 (by omega) (by omega) (by omega) rfl (Nat.lt_succ_self _) _ _ (hP.sub [0, 1, 2] rfl) (hD.sub [0, 1, 2] (by decide) rfl) hS ls (lv_sub hl [2, 3, 4, 1, 0] rfl)
  · skip
    have h_1 : (wI f_tape a b) < 7 := h_1
    refine lv_iload_n hx hb dX10_wordAt_109 rfl (lv_at hl 0 rfl) ?_
    have hP9 := hP.sub (ws' := [(h0, Sum.inr (9, [Value.ref m_tape, Value.int (nI ln), Value.int s_thrown, Value.ref m_rule, Value.ref m_rules, Value.int (nI sn), Value.ref m_stair, Value.int (nI rs), Value.int s_fault, Value.int s_faultPlace, Value.int (nI w), Value.int (nI h), Value.ref m_low, Value.ref m_high, Value.ref m_crack, Value.int (nI bc), Value.ref m_weight, Value.ref m_fire, Value.ref m_crowd, Value.ref m_state, Value.ref m_where, Value.int s_hours, Value.int s_fees, Value.int s_looks, Value.ref m_words, Value.int (nI ne), Value.int (nI nx), Value.int s_kind, Value.int s_which, Value.int s_place, Value.int s_read, Value.ref m_told, Value.ref m_breaks, Value.ref m_row, Value.ref m_tried, Value.ref m_steps, Value.ref m_paths])), (m_words, Sum.inl (y_words, 36, Sum.inl wF)), (m_tape, Sum.inl (y_tape, 400, Sum.inl f_tape))]) [0, 1, 2] rfl
    have hD9 := hD.sub (ws' := [(h0, Sum.inr (9, [Value.ref m_tape, Value.int (nI ln), Value.int s_thrown, Value.ref m_rule, Value.ref m_rules, Value.int (nI sn), Value.ref m_stair, Value.int (nI rs), Value.int s_fault, Value.int s_faultPlace, Value.int (nI w), Value.int (nI h), Value.ref m_low, Value.ref m_high, Value.ref m_crack, Value.int (nI bc), Value.ref m_weight, Value.ref m_fire, Value.ref m_crowd, Value.ref m_state, Value.ref m_where, Value.int s_hours, Value.int s_fees, Value.int s_looks, Value.ref m_words, Value.int (nI ne), Value.int (nI nx), Value.int s_kind, Value.int s_which, Value.int s_place, Value.int s_read, Value.ref m_told, Value.ref m_breaks, Value.ref m_row, Value.ref m_tried, Value.ref m_steps, Value.ref m_paths])), (m_words, Sum.inl (y_words, 36, Sum.inl wF)), (m_tape, Sum.inl (y_tape, 400, Sum.inl f_tape))]) [0, 1, 2] (by decide) rfl
    have hK9 := hK.sub (tys' := []) [] rfl
    refine W.widen (k := 0) (n := 0) (by decide) (by decide) ?_
    exact W.iret (v := nI (wI f_tape a b)) hx hb hr (fun t ht hW => ⟨⟨(nI (wI f_tape a b)), (), rfl, Or.inr ⟨rfl, h_1⟩, by rw [ht]; exact hP9, va_K.moved hW.alike hK9, hD9⟩, hS.F ht⟩) hS.2.2 dX10_wordAt_110
  · skip
    have h_2 : ¬ (wI f_tape a b) < 7 := h_2
    refine lv_iconst (v := -1) hx hb dX10_wordAt_126 (by decide) ?_
    have hP9 := hP.sub (ws' := [(h0, Sum.inr (9, [Value.ref m_tape, Value.int (nI ln), Value.int s_thrown, Value.ref m_rule, Value.ref m_rules, Value.int (nI sn), Value.ref m_stair, Value.int (nI rs), Value.int s_fault, Value.int s_faultPlace, Value.int (nI w), Value.int (nI h), Value.ref m_low, Value.ref m_high, Value.ref m_crack, Value.int (nI bc), Value.ref m_weight, Value.ref m_fire, Value.ref m_crowd, Value.ref m_state, Value.ref m_where, Value.int s_hours, Value.int s_fees, Value.int s_looks, Value.ref m_words, Value.int (nI ne), Value.int (nI nx), Value.int s_kind, Value.int s_which, Value.int s_place, Value.int s_read, Value.ref m_told, Value.ref m_breaks, Value.ref m_row, Value.ref m_tried, Value.ref m_steps, Value.ref m_paths])), (m_words, Sum.inl (y_words, 36, Sum.inl wF)), (m_tape, Sum.inl (y_tape, 400, Sum.inl f_tape))]) [0, 1, 2] rfl
    have hD9 := hD.sub (ws' := [(h0, Sum.inr (9, [Value.ref m_tape, Value.int (nI ln), Value.int s_thrown, Value.ref m_rule, Value.ref m_rules, Value.int (nI sn), Value.ref m_stair, Value.int (nI rs), Value.int s_fault, Value.int s_faultPlace, Value.int (nI w), Value.int (nI h), Value.ref m_low, Value.ref m_high, Value.ref m_crack, Value.int (nI bc), Value.ref m_weight, Value.ref m_fire, Value.ref m_crowd, Value.ref m_state, Value.ref m_where, Value.int s_hours, Value.int s_fees, Value.int s_looks, Value.ref m_words, Value.int (nI ne), Value.int (nI nx), Value.int s_kind, Value.int s_which, Value.int s_place, Value.int s_read, Value.ref m_told, Value.ref m_breaks, Value.ref m_row, Value.ref m_tried, Value.ref m_steps, Value.ref m_paths])), (m_words, Sum.inl (y_words, 36, Sum.inl wF)), (m_tape, Sum.inl (y_tape, 400, Sum.inl f_tape))]) [0, 1, 2] (by decide) rfl
    have hK9 := hK.sub (tys' := []) [] rfl
    refine W.widen (k := 0) (n := 0) (by decide) (by decide) ?_
    exact W.iret (v := (-1)) hx hb hr (fun t ht hW => ⟨⟨((-1)), (), rfl, Or.inl ⟨rfl, h_2⟩, by rw [ht]; exact hP9, va_K.moved hW.alike hK9, hD9⟩, hS.F ht⟩) hS.2.2 dX10_wordAt_127
