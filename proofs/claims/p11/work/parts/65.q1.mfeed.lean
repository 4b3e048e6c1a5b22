set_option maxHeartbeats 4000000 in
set_option maxRecDepth 100000 in
theorem lp_q_feed {p : Program} {l : Launch} {e : Env} {s : State} {m : MethodId} {args : Array Value} {below : List Frame} {meth : Method} {c : Code} {Q : State → Prop} {A : Nat → Prop} {D : va_G} (F : mFix p s m args c cX10_feed 8 RX10) (hA : ∀ q, s.heap.size ≤ q → A q) (h0 : Nat) (m_tape : Nat) (ln : Nat) (u_thrown : Int32) (m_rule : Nat) (m_rules : Nat) (sn : Nat) (m_stair : Nat) (s_readStairs : Int32) (s_fault : Int32) (s_faultPlace : Int32) (w : Nat) (h : Nat) (m_low : Nat) (m_high : Nat) (m_crack : Nat) (bc : Nat) (m_weight : Nat) (m_fire : Nat) (m_crowd : Nat) (m_state : Nat) (m_where : Nat) (s_hours : Int32) (s_fees : Int32) (s_looks : Int32) (m_words : Nat) (s_end : Int32) (s_next : Int32) (s_kind : Int32) (s_which : Int32) (s_place : Int32) (s_read : Int32) (m_told : Nat) (m_breaks : Nat) (m_row : Nat) (m_tried : Nat) (m_steps : Nat) (m_paths : Nat) (y_tape : ClassId) (a1 : Int32) (a2 : Int32) (a3 : Int32) (a4 : Int32) (a5 : Int32) (f_tape : Nat → Int32) (hK : va_K D vwCl [(y_tape, .int)] s)
    (kx_113 : ∀ (g_tape : Nat → Int32), (∀ j, g_tape j = if ln ≤ j ∧ j < ln + 20 then bt (fdW a1 a2 a3 a4 a5 (j - ln)) ((j - ln) % 4) else f_tape j) → ∀ (H : Heap) (locs : List Loc), va_P D vwCl [(h0, Sum.inr (9, [Value.ref m_tape, Value.int (nI ln), Value.int u_thrown, Value.ref m_rule, Value.ref m_rules, Value.int (nI sn), Value.ref m_stair, Value.int s_readStairs, Value.int s_fault, Value.int s_faultPlace, Value.int (nI w), Value.int (nI h), Value.ref m_low, Value.ref m_high, Value.ref m_crack, Value.int (nI bc), Value.ref m_weight, Value.ref m_fire, Value.ref m_crowd, Value.ref m_state, Value.ref m_where, Value.int s_hours, Value.int s_fees, Value.int s_looks, Value.ref m_words, Value.int s_end, Value.int s_next, Value.int s_kind, Value.int s_which, Value.int s_place, Value.int s_read, Value.ref m_told, Value.ref m_breaks, Value.ref m_row, Value.ref m_tried, Value.ref m_steps, Value.ref m_paths])), (m_tape, Sum.inl (y_tape, 400, Sum.inl g_tape))] H → va_D A [(h0, Sum.inr (9, [Value.ref m_tape, Value.int (nI ln), Value.int u_thrown, Value.ref m_rule, Value.ref m_rules, Value.int (nI sn), Value.ref m_stair, Value.int s_readStairs, Value.int s_fault, Value.int s_faultPlace, Value.int (nI w), Value.int (nI h), Value.ref m_low, Value.ref m_high, Value.ref m_crack, Value.int (nI bc), Value.ref m_weight, Value.ref m_fire, Value.ref m_crowd, Value.ref m_state, Value.ref m_where, Value.int s_hours, Value.int s_fees, Value.int s_looks, Value.ref m_words, Value.int s_end, Value.int s_next, Value.int s_kind, Value.int s_which, Value.int s_place, Value.int s_read, Value.ref m_told, Value.ref m_breaks, Value.ref m_row, Value.ref m_tried, Value.ref m_steps, Value.ref m_paths])), (m_tape, Sum.inl (y_tape, 400, Sum.inl g_tape))] → va_S A s.heap H locs → ∀ ls : Array Slot, lv_has ls 8 [(0, Value.ref h0)] → W p l e ({ frames := 0, cells := 0, slots := 0, locals := 0 }) s m args below meth c H locs 0 0 Q (F0 m 113 ls [])) :
    ∀ n : Nat, ∀ (g_tape : Nat → Int32) (i : Nat), (i ≤ 20) → (ln ≤ 380) → (∀ j, g_tape j = if ln ≤ j ∧ j < ln + i then bt (fdW a1 a2 a3 a4 a5 (j - ln)) ((j - ln) % 4) else f_tape j) → (20 - i) < n → ∀ (H : Heap) (locs : List Loc), va_P D vwCl [(h0, Sum.inr (9, [Value.ref m_tape, Value.int (nI ln), Value.int u_thrown, Value.ref m_rule, Value.ref m_rules, Value.int (nI sn), Value.ref m_stair, Value.int s_readStairs, Value.int s_fault, Value.int s_faultPlace, Value.int (nI w), Value.int (nI h), Value.ref m_low, Value.ref m_high, Value.ref m_crack, Value.int (nI bc), Value.ref m_weight, Value.ref m_fire, Value.ref m_crowd, Value.ref m_state, Value.ref m_where, Value.int s_hours, Value.int s_fees, Value.int s_looks, Value.ref m_words, Value.int s_end, Value.int s_next, Value.int s_kind, Value.int s_which, Value.int s_place, Value.int s_read, Value.ref m_told, Value.ref m_breaks, Value.ref m_row, Value.ref m_tried, Value.ref m_steps, Value.ref m_paths])), (m_tape, Sum.inl (y_tape, 400, Sum.inl g_tape))] H → va_D A [(h0, Sum.inr (9, [Value.ref m_tape, Value.int (nI ln), Value.int u_thrown, Value.ref m_rule, Value.ref m_rules, Value.int (nI sn), Value.ref m_stair, Value.int s_readStairs, Value.int s_fault, Value.int s_faultPlace, Value.int (nI w), Value.int (nI h), Value.ref m_low, Value.ref m_high, Value.ref m_crack, Value.int (nI bc), Value.ref m_weight, Value.ref m_fire, Value.ref m_crowd, Value.ref m_state, Value.ref m_where, Value.int s_hours, Value.int s_fees, Value.int s_looks, Value.ref m_words, Value.int s_end, Value.int s_next, Value.int s_kind, Value.int s_which, Value.int s_place, Value.int s_read, Value.ref m_told, Value.ref m_breaks, Value.ref m_row, Value.ref m_tried, Value.ref m_steps, Value.ref m_paths])), (m_tape, Sum.inl (y_tape, 400, Sum.inl g_tape))] → va_S A s.heap H locs → ∀ ls : Array Slot, lv_has ls 8 [(0, Value.ref h0), (1, Value.int a1), (2, Value.int a2), (3, Value.int a3), (4, Value.int a4), (5, Value.int a5), (6, Value.int (nI i))] → W p l e ({ frames := 0, cells := 0, slots := 0, locals := 0 }) s m args below meth c H locs 0 0 Q (F0 m 23 ls []) := by
  intro n
  induction n with
  | zero => intro g_tape i hi h380 hfd hn; exact absurd hn (Nat.not_lt_zero _)
  | succ n ih =>
    intro g_tape i hi h380 hfd hn H locs hP hD hS ls hl
    obtain ⟨hx, hb, hml, hown, hts⟩ := id F
    refine lv_iload hx hb dX10_feed_23 (lv_at hl 6 rfl) ?_
    refine lv_bipush (v := 20) hx hb dX10_feed_25 (by decide) ?_
    refine lv_icmp_ge (tgt := 113) hx hb dX10_feed_27 (by decide) (fun c_1 => ?_) (fun c_1 => ?_)
    · skip
      have c_1n : 20 ≤ i := (nI_leI (by omega) (by omega)).mp c_1
      have c_1 := Int32.not_lt.mpr c_1
      exact kx_113 g_tape ((show i = 20 by omega) ▸ hfd) H locs (hP.sub [0, 1] rfl) (hD.sub [0, 1] (by decide) rfl) hS ls (lv_sub hl [0] rfl)
    · skip
      have c_1n : i < 20 := nb_le (by omega) (by omega) c_1
      have c_1 := Int32.not_le.mp c_1
      refine lv_iload hx hb dX10_feed_30 (lv_at hl 6 rfl) ?_
      refine lv_iconst (v := 4) hx hb dX10_feed_32 (by decide) ?_
      refine lv_icmp_ge (tgt := 40) hx hb dX10_feed_33 (by decide) (fun c_2 => ?_) (fun c_2 => ?_)
      · skip
        have c_2n : 4 ≤ i := (nI_leI (by omega) (by omega)).mp c_2
        have c_2 := Int32.not_lt.mpr c_2
        refine lv_iload hx hb dX10_feed_40 (lv_at hl 6 rfl) ?_
        refine lv_bipush (v := 8) hx hb dX10_feed_42 (by decide) ?_
        refine lv_icmp_ge (tgt := 51) hx hb dX10_feed_44 (by decide) (fun c_3 => ?_) (fun c_3 => ?_)
        · skip
          have c_3n : 8 ≤ i := (nI_leI (by omega) (by omega)).mp c_3
          have c_3 := Int32.not_lt.mpr c_3
          refine lv_iload hx hb dX10_feed_51 (lv_at hl 6 rfl) ?_
          refine lv_bipush (v := 12) hx hb dX10_feed_53 (by decide) ?_
          refine lv_icmp_ge (tgt := 62) hx hb dX10_feed_55 (by decide) (fun c_4 => ?_) (fun c_4 => ?_)
          · skip
            have c_4n : 12 ≤ i := (nI_leI (by omega) (by omega)).mp c_4
            have c_4 := Int32.not_lt.mpr c_4
            refine lv_iload hx hb dX10_feed_62 (lv_at hl 6 rfl) ?_
            refine lv_bipush (v := 16) hx hb dX10_feed_64 (by decide) ?_
            refine lv_icmp_ge (tgt := 74) hx hb dX10_feed_66 (by decide) (fun c_5 => ?_) (fun c_5 => ?_)
            · skip
              have c_5n : 16 ≤ i := (nI_leI (by omega) (by omega)).mp c_5
              have c_5 := Int32.not_lt.mpr c_5
              refine lv_iload hx hb dX10_feed_74 (lv_at hl 5 rfl) ?_
              refine lv_istore (lv' := [(7, Value.int a5), (0, Value.ref h0), (1, Value.int a1), (2, Value.int a2), (3, Value.int a3), (4, Value.int a4), (5, Value.int a5), (6, Value.int (nI i))]) hx hb dX10_feed_76 hl (by decide) rfl (fun ls hl => ?_)
              refine lv_aload_n hx hb dX10_feed_78 rfl (lv_at hl 1 rfl) ?_
              refine va_get (D := D) (ci := 9) (v := Value.ref m_tape) (C := RX10) (T := TX10) (N := 37) hx hb hts inG_X10 hown hK hP 0 rfl rfl 0 (by decide) (hts _ kw_4_195) (fun _ h9 => h9) rfl dX10_feed_79 ?_
              refine lv_aload_n hx hb dX10_feed_82 rfl (lv_at hl 1 rfl) ?_
              refine va_get (D := D) (ci := 9) (v := Value.int (nI ln)) (C := RX10) (T := TX10) (N := 37) hx hb hts inG_X10 hown hK hP 0 rfl rfl 1 (by decide) (hts _ kw_4_196) (fun _ h9 => h9) rfl dX10_feed_83 ?_
              refine lv_iload hx hb dX10_feed_86 (lv_at hl 7 rfl) ?_
              refine lv_iadd hx hb dX10_feed_88 ?_
              refine lv_topi (fun z_6 ez_6 => ?_)
              obtain rfl : z_6 = nI (ln + i) := ez_6.trans (nI_add ln i)
              refine lv_iload hx hb dX10_feed_89 (lv_at hl 0 rfl) ?_
              refine lv_bipush (v := 24) hx hb dX10_feed_91 (by decide) ?_
              refine lv_bipush (v := 8) hx hb dX10_feed_93 (by decide) ?_
              refine lv_iload hx hb dX10_feed_95 (lv_at hl 7 rfl) ?_
              refine lv_iconst (v := 4) hx hb dX10_feed_97 (by decide) ?_
              refine lv_irem hx hb dX10_feed_98 (by decide) ?_
              refine lv_topi (fun z_7 ez_7 => ?_)
              obtain rfl : z_7 = nI (i % 4) := ez_7.trans (pk_rem (a := i) (d := 4) (by omega) (by decide) (by decide))
              refine lv_imul hx hb dX10_feed_99 ?_
              refine lv_topi (fun z_8 ez_8 => ?_)
              obtain rfl : z_8 = nI (8 * (i % 4)) := ez_8.trans (pk_mul 8 (i % 4))
              refine lv_isub hx hb dX10_feed_100 ?_
              refine lv_topi (fun z_9 ez_9 => ?_)
              obtain rfl : z_9 = nI (24 - 8 * (i % 4)) := ez_9.trans (nI_subN (a := 8 * (i % 4)) (b := 24) (by omega))
              refine lv_ishr hx hb dX10_feed_101 ?_
              refine lv_topi (fun z_10 ez_10 => ?_)
              refine lv_sipush (v := 255) hx hb dX10_feed_102 (by decide) ?_
              refine lv_iand hx hb dX10_feed_105 ?_
              refine lv_topi (fun z_11 ez_11 => ?_)
              refine m_iast hx hb hK hP hD hS 1 0 rfl rfl (ln + i) rfl (by omega) (by decide) dX10_feed_106 (fun g_12 H locs eg_12 hP hD hS => ?_)
              have hP : va_P D vwCl [(h0, Sum.inr (9, [Value.ref m_tape, Value.int (nI ln), Value.int u_thrown, Value.ref m_rule, Value.ref m_rules, Value.int (nI sn), Value.ref m_stair, Value.int s_readStairs, Value.int s_fault, Value.int s_faultPlace, Value.int (nI w), Value.int (nI h), Value.ref m_low, Value.ref m_high, Value.ref m_crack, Value.int (nI bc), Value.ref m_weight, Value.ref m_fire, Value.ref m_crowd, Value.ref m_state, Value.ref m_where, Value.int s_hours, Value.int s_fees, Value.int s_looks, Value.ref m_words, Value.int s_end, Value.int s_next, Value.int s_kind, Value.int s_which, Value.int s_place, Value.int s_read, Value.ref m_told, Value.ref m_breaks, Value.ref m_row, Value.ref m_tried, Value.ref m_steps, Value.ref m_paths])), (m_tape, Sum.inl (y_tape, 400, Sum.inl g_12))] H := hP
              have hD : va_D A [(h0, Sum.inr (9, [Value.ref m_tape, Value.int (nI ln), Value.int u_thrown, Value.ref m_rule, Value.ref m_rules, Value.int (nI sn), Value.ref m_stair, Value.int s_readStairs, Value.int s_fault, Value.int s_faultPlace, Value.int (nI w), Value.int (nI h), Value.ref m_low, Value.ref m_high, Value.ref m_crack, Value.int (nI bc), Value.ref m_weight, Value.ref m_fire, Value.ref m_crowd, Value.ref m_state, Value.ref m_where, Value.int s_hours, Value.int s_fees, Value.int s_looks, Value.ref m_words, Value.int s_end, Value.int s_next, Value.int s_kind, Value.int s_which, Value.int s_place, Value.int s_read, Value.ref m_told, Value.ref m_breaks, Value.ref m_row, Value.ref m_tried, Value.ref m_steps, Value.ref m_paths])), (m_tape, Sum.inl (y_tape, 400, Sum.inl g_12))] := hD
              refine lv_iinc (v := nI (i + 1)) (lv' := [(6, Value.int (nI (i + 1))), (7, Value.int a5), (0, Value.ref h0), (1, Value.int a1), (2, Value.int a2), (3, Value.int a3), (4, Value.int a4), (5, Value.int a5)]) hx hb dX10_feed_107 hl (k := 7) rfl (nI_add i 1) (by decide) rfl (fun ls hl => ?_)
              refine lv_goto (tgt := 23) hx hb dX10_feed_110 (by decide) ?_
              exact ih g_12 (i + 1) (by omega) (by omega) (fd_s hfd (by rw [ez_11, ez_10]; unfold bt fdW; rw [if_neg (Nat.not_lt.mpr c_2n), if_neg (Nat.not_lt.mpr c_3n), if_neg (Nat.not_lt.mpr c_4n), if_neg (Nat.not_lt.mpr c_5n)]) eg_12) (by omega) H locs (hP.sub [0, 1] rfl) (hD.sub [0, 1] (by decide) rfl) hS ls (lv_sub hl [2, 3, 4, 5, 6, 7, 0] rfl)
            · skip
              have c_5n : i < 16 := nb_le (by omega) (by omega) c_5
              have c_5 := Int32.not_le.mp c_5
              refine lv_iload hx hb dX10_feed_69 (lv_at hl 4 rfl) ?_
              refine lv_goto (tgt := 76) hx hb dX10_feed_71 (by decide) ?_
              refine lv_istore (lv' := [(7, Value.int a4), (0, Value.ref h0), (1, Value.int a1), (2, Value.int a2), (3, Value.int a3), (4, Value.int a4), (5, Value.int a5), (6, Value.int (nI i))]) hx hb dX10_feed_76 hl (by decide) rfl (fun ls hl => ?_)
              refine lv_aload_n hx hb dX10_feed_78 rfl (lv_at hl 1 rfl) ?_
              refine va_get (D := D) (ci := 9) (v := Value.ref m_tape) (C := RX10) (T := TX10) (N := 37) hx hb hts inG_X10 hown hK hP 0 rfl rfl 0 (by decide) (hts _ kw_4_195) (fun _ h9 => h9) rfl dX10_feed_79 ?_
              refine lv_aload_n hx hb dX10_feed_82 rfl (lv_at hl 1 rfl) ?_
              refine va_get (D := D) (ci := 9) (v := Value.int (nI ln)) (C := RX10) (T := TX10) (N := 37) hx hb hts inG_X10 hown hK hP 0 rfl rfl 1 (by decide) (hts _ kw_4_196) (fun _ h9 => h9) rfl dX10_feed_83 ?_
              refine lv_iload hx hb dX10_feed_86 (lv_at hl 7 rfl) ?_
              refine lv_iadd hx hb dX10_feed_88 ?_
              refine lv_topi (fun z_13 ez_13 => ?_)
              obtain rfl : z_13 = nI (ln + i) := ez_13.trans (nI_add ln i)
              refine lv_iload hx hb dX10_feed_89 (lv_at hl 0 rfl) ?_
              refine lv_bipush (v := 24) hx hb dX10_feed_91 (by decide) ?_
              refine lv_bipush (v := 8) hx hb dX10_feed_93 (by decide) ?_
              refine lv_iload hx hb dX10_feed_95 (lv_at hl 7 rfl) ?_
              refine lv_iconst (v := 4) hx hb dX10_feed_97 (by decide) ?_
              refine lv_irem hx hb dX10_feed_98 (by decide) ?_
              refine lv_topi (fun z_14 ez_14 => ?_)
              obtain rfl : z_14 = nI (i % 4) := ez_14.trans (pk_rem (a := i) (d := 4) (by omega) (by decide) (by decide))
              refine lv_imul hx hb dX10_feed_99 ?_
              refine lv_topi (fun z_15 ez_15 => ?_)
              obtain rfl : z_15 = nI (8 * (i % 4)) := ez_15.trans (pk_mul 8 (i % 4))
              refine lv_isub hx hb dX10_feed_100 ?_
              refine lv_topi (fun z_16 ez_16 => ?_)
              obtain rfl : z_16 = nI (24 - 8 * (i % 4)) := ez_16.trans (nI_subN (a := 8 * (i % 4)) (b := 24) (by omega))
              refine lv_ishr hx hb dX10_feed_101 ?_
              refine lv_topi (fun z_17 ez_17 => ?_)
              refine lv_sipush (v := 255) hx hb dX10_feed_102 (by decide) ?_
              refine lv_iand hx hb dX10_feed_105 ?_
              refine lv_topi (fun z_18 ez_18 => ?_)
              refine m_iast hx hb hK hP hD hS 1 0 rfl rfl (ln + i) rfl (by omega) (by decide) dX10_feed_106 (fun g_19 H locs eg_19 hP hD hS => ?_)
              have hP : va_P D vwCl [(h0, Sum.inr (9, [Value.ref m_tape, Value.int (nI ln), Value.int u_thrown, Value.ref m_rule, Value.ref m_rules, Value.int (nI sn), Value.ref m_stair, Value.int s_readStairs, Value.int s_fault, Value.int s_faultPlace, Value.int (nI w), Value.int (nI h), Value.ref m_low, Value.ref m_high, Value.ref m_crack, Value.int (nI bc), Value.ref m_weight, Value.ref m_fire, Value.ref m_crowd, Value.ref m_state, Value.ref m_where, Value.int s_hours, Value.int s_fees, Value.int s_looks, Value.ref m_words, Value.int s_end, Value.int s_next, Value.int s_kind, Value.int s_which, Value.int s_place, Value.int s_read, Value.ref m_told, Value.ref m_breaks, Value.ref m_row, Value.ref m_tried, Value.ref m_steps, Value.ref m_paths])), (m_tape, Sum.inl (y_tape, 400, Sum.inl g_19))] H := hP
              have hD : va_D A [(h0, Sum.inr (9, [Value.ref m_tape, Value.int (nI ln), Value.int u_thrown, Value.ref m_rule, Value.ref m_rules, Value.int (nI sn), Value.ref m_stair, Value.int s_readStairs, Value.int s_fault, Value.int s_faultPlace, Value.int (nI w), Value.int (nI h), Value.ref m_low, Value.ref m_high, Value.ref m_crack, Value.int (nI bc), Value.ref m_weight, Value.ref m_fire, Value.ref m_crowd, Value.ref m_state, Value.ref m_where, Value.int s_hours, Value.int s_fees, Value.int s_looks, Value.ref m_words, Value.int s_end, Value.int s_next, Value.int s_kind, Value.int s_which, Value.int s_place, Value.int s_read, Value.ref m_told, Value.ref m_breaks, Value.ref m_row, Value.ref m_tried, Value.ref m_steps, Value.ref m_paths])), (m_tape, Sum.inl (y_tape, 400, Sum.inl g_19))] := hD
              refine lv_iinc (v := nI (i + 1)) (lv' := [(6, Value.int (nI (i + 1))), (7, Value.int a4), (0, Value.ref h0), (1, Value.int a1), (2, Value.int a2), (3, Value.int a3), (4, Value.int a4), (5, Value.int a5)]) hx hb dX10_feed_107 hl (k := 7) rfl (nI_add i 1) (by decide) rfl (fun ls hl => ?_)
              refine lv_goto (tgt := 23) hx hb dX10_feed_110 (by decide) ?_
              exact ih g_19 (i + 1) (by omega) (by omega) (fd_s hfd (by rw [ez_18, ez_17]; unfold bt fdW; rw [if_neg (Nat.not_lt.mpr c_2n), if_neg (Nat.not_lt.mpr c_3n), if_neg (Nat.not_lt.mpr c_4n), if_pos c_5n]) eg_19) (by omega) H locs (hP.sub [0, 1] rfl) (hD.sub [0, 1] (by decide) rfl) hS ls (lv_sub hl [2, 3, 4, 5, 6, 7, 0] rfl)
          · skip
            have c_4n : i < 12 := nb_le (by omega) (by omega) c_4
            have c_4 := Int32.not_le.mp c_4
            refine lv_iload_n hx hb dX10_feed_58 rfl (lv_at hl 3 rfl) ?_
            refine lv_goto (tgt := 76) hx hb dX10_feed_59 (by decide) ?_
            refine lv_istore (lv' := [(7, Value.int a3), (0, Value.ref h0), (1, Value.int a1), (2, Value.int a2), (3, Value.int a3), (4, Value.int a4), (5, Value.int a5), (6, Value.int (nI i))]) hx hb dX10_feed_76 hl (by decide) rfl (fun ls hl => ?_)
            refine lv_aload_n hx hb dX10_feed_78 rfl (lv_at hl 1 rfl) ?_
            refine va_get (D := D) (ci := 9) (v := Value.ref m_tape) (C := RX10) (T := TX10) (N := 37) hx hb hts inG_X10 hown hK hP 0 rfl rfl 0 (by decide) (hts _ kw_4_195) (fun _ h9 => h9) rfl dX10_feed_79 ?_
            refine lv_aload_n hx hb dX10_feed_82 rfl (lv_at hl 1 rfl) ?_
            refine va_get (D := D) (ci := 9) (v := Value.int (nI ln)) (C := RX10) (T := TX10) (N := 37) hx hb hts inG_X10 hown hK hP 0 rfl rfl 1 (by decide) (hts _ kw_4_196) (fun _ h9 => h9) rfl dX10_feed_83 ?_
            refine lv_iload hx hb dX10_feed_86 (lv_at hl 7 rfl) ?_
            refine lv_iadd hx hb dX10_feed_88 ?_
            refine lv_topi (fun z_20 ez_20 => ?_)
            obtain rfl : z_20 = nI (ln + i) := ez_20.trans (nI_add ln i)
            refine lv_iload hx hb dX10_feed_89 (lv_at hl 0 rfl) ?_
            refine lv_bipush (v := 24) hx hb dX10_feed_91 (by decide) ?_
            refine lv_bipush (v := 8) hx hb dX10_feed_93 (by decide) ?_
            refine lv_iload hx hb dX10_feed_95 (lv_at hl 7 rfl) ?_
            refine lv_iconst (v := 4) hx hb dX10_feed_97 (by decide) ?_
            refine lv_irem hx hb dX10_feed_98 (by decide) ?_
            refine lv_topi (fun z_21 ez_21 => ?_)
            obtain rfl : z_21 = nI (i % 4) := ez_21.trans (pk_rem (a := i) (d := 4) (by omega) (by decide) (by decide))
            refine lv_imul hx hb dX10_feed_99 ?_
            refine lv_topi (fun z_22 ez_22 => ?_)
            obtain rfl : z_22 = nI (8 * (i % 4)) := ez_22.trans (pk_mul 8 (i % 4))
            refine lv_isub hx hb dX10_feed_100 ?_
            refine lv_topi (fun z_23 ez_23 => ?_)
            obtain rfl : z_23 = nI (24 - 8 * (i % 4)) := ez_23.trans (nI_subN (a := 8 * (i % 4)) (b := 24) (by omega))
            refine lv_ishr hx hb dX10_feed_101 ?_
            refine lv_topi (fun z_24 ez_24 => ?_)
            refine lv_sipush (v := 255) hx hb dX10_feed_102 (by decide) ?_
            refine lv_iand hx hb dX10_feed_105 ?_
            refine lv_topi (fun z_25 ez_25 => ?_)
            refine m_iast hx hb hK hP hD hS 1 0 rfl rfl (ln + i) rfl (by omega) (by decide) dX10_feed_106 (fun g_26 H locs eg_26 hP hD hS => ?_)
            have hP : va_P D vwCl [(h0, Sum.inr (9, [Value.ref m_tape, Value.int (nI ln), Value.int u_thrown, Value.ref m_rule, Value.ref m_rules, Value.int (nI sn), Value.ref m_stair, Value.int s_readStairs, Value.int s_fault, Value.int s_faultPlace, Value.int (nI w), Value.int (nI h), Value.ref m_low, Value.ref m_high, Value.ref m_crack, Value.int (nI bc), Value.ref m_weight, Value.ref m_fire, Value.ref m_crowd, Value.ref m_state, Value.ref m_where, Value.int s_hours, Value.int s_fees, Value.int s_looks, Value.ref m_words, Value.int s_end, Value.int s_next, Value.int s_kind, Value.int s_which, Value.int s_place, Value.int s_read, Value.ref m_told, Value.ref m_breaks, Value.ref m_row, Value.ref m_tried, Value.ref m_steps, Value.ref m_paths])), (m_tape, Sum.inl (y_tape, 400, Sum.inl g_26))] H := hP
            have hD : va_D A [(h0, Sum.inr (9, [Value.ref m_tape, Value.int (nI ln), Value.int u_thrown, Value.ref m_rule, Value.ref m_rules, Value.int (nI sn), Value.ref m_stair, Value.int s_readStairs, Value.int s_fault, Value.int s_faultPlace, Value.int (nI w), Value.int (nI h), Value.ref m_low, Value.ref m_high, Value.ref m_crack, Value.int (nI bc), Value.ref m_weight, Value.ref m_fire, Value.ref m_crowd, Value.ref m_state, Value.ref m_where, Value.int s_hours, Value.int s_fees, Value.int s_looks, Value.ref m_words, Value.int s_end, Value.int s_next, Value.int s_kind, Value.int s_which, Value.int s_place, Value.int s_read, Value.ref m_told, Value.ref m_breaks, Value.ref m_row, Value.ref m_tried, Value.ref m_steps, Value.ref m_paths])), (m_tape, Sum.inl (y_tape, 400, Sum.inl g_26))] := hD
            refine lv_iinc (v := nI (i + 1)) (lv' := [(6, Value.int (nI (i + 1))), (7, Value.int a3), (0, Value.ref h0), (1, Value.int a1), (2, Value.int a2), (3, Value.int a3), (4, Value.int a4), (5, Value.int a5)]) hx hb dX10_feed_107 hl (k := 7) rfl (nI_add i 1) (by decide) rfl (fun ls hl => ?_)
            refine lv_goto (tgt := 23) hx hb dX10_feed_110 (by decide) ?_
            exact ih g_26 (i + 1) (by omega) (by omega) (fd_s hfd (by rw [ez_25, ez_24]; unfold bt fdW; rw [if_neg (Nat.not_lt.mpr c_2n), if_neg (Nat.not_lt.mpr c_3n), if_pos c_4n]) eg_26) (by omega) H locs (hP.sub [0, 1] rfl) (hD.sub [0, 1] (by decide) rfl) hS ls (lv_sub hl [2, 3, 4, 5, 6, 7, 0] rfl)
        · skip
          have c_3n : i < 8 := nb_le (by omega) (by omega) c_3
          have c_3 := Int32.not_le.mp c_3
          refine lv_iload_n hx hb dX10_feed_47 rfl (lv_at hl 2 rfl) ?_
          refine lv_goto (tgt := 76) hx hb dX10_feed_48 (by decide) ?_
          refine lv_istore (lv' := [(7, Value.int a2), (0, Value.ref h0), (1, Value.int a1), (2, Value.int a2), (3, Value.int a3), (4, Value.int a4), (5, Value.int a5), (6, Value.int (nI i))]) hx hb dX10_feed_76 hl (by decide) rfl (fun ls hl => ?_)
          refine lv_aload_n hx hb dX10_feed_78 rfl (lv_at hl 1 rfl) ?_
          refine va_get (D := D) (ci := 9) (v := Value.ref m_tape) (C := RX10) (T := TX10) (N := 37) hx hb hts inG_X10 hown hK hP 0 rfl rfl 0 (by decide) (hts _ kw_4_195) (fun _ h9 => h9) rfl dX10_feed_79 ?_
          refine lv_aload_n hx hb dX10_feed_82 rfl (lv_at hl 1 rfl) ?_
          refine va_get (D := D) (ci := 9) (v := Value.int (nI ln)) (C := RX10) (T := TX10) (N := 37) hx hb hts inG_X10 hown hK hP 0 rfl rfl 1 (by decide) (hts _ kw_4_196) (fun _ h9 => h9) rfl dX10_feed_83 ?_
          refine lv_iload hx hb dX10_feed_86 (lv_at hl 7 rfl) ?_
          refine lv_iadd hx hb dX10_feed_88 ?_
          refine lv_topi (fun z_27 ez_27 => ?_)
          obtain rfl : z_27 = nI (ln + i) := ez_27.trans (nI_add ln i)
          refine lv_iload hx hb dX10_feed_89 (lv_at hl 0 rfl) ?_
          refine lv_bipush (v := 24) hx hb dX10_feed_91 (by decide) ?_
          refine lv_bipush (v := 8) hx hb dX10_feed_93 (by decide) ?_
          refine lv_iload hx hb dX10_feed_95 (lv_at hl 7 rfl) ?_
          refine lv_iconst (v := 4) hx hb dX10_feed_97 (by decide) ?_
          refine lv_irem hx hb dX10_feed_98 (by decide) ?_
          refine lv_topi (fun z_28 ez_28 => ?_)
          obtain rfl : z_28 = nI (i % 4) := ez_28.trans (pk_rem (a := i) (d := 4) (by omega) (by decide) (by decide))
          refine lv_imul hx hb dX10_feed_99 ?_
          refine lv_topi (fun z_29 ez_29 => ?_)
          obtain rfl : z_29 = nI (8 * (i % 4)) := ez_29.trans (pk_mul 8 (i % 4))
          refine lv_isub hx hb dX10_feed_100 ?_
          refine lv_topi (fun z_30 ez_30 => ?_)
          obtain rfl : z_30 = nI (24 - 8 * (i % 4)) := ez_30.trans (nI_subN (a := 8 * (i % 4)) (b := 24) (by omega))
          refine lv_ishr hx hb dX10_feed_101 ?_
          refine lv_topi (fun z_31 ez_31 => ?_)
          refine lv_sipush (v := 255) hx hb dX10_feed_102 (by decide) ?_
          refine lv_iand hx hb dX10_feed_105 ?_
          refine lv_topi (fun z_32 ez_32 => ?_)
          refine m_iast hx hb hK hP hD hS 1 0 rfl rfl (ln + i) rfl (by omega) (by decide) dX10_feed_106 (fun g_33 H locs eg_33 hP hD hS => ?_)
          have hP : va_P D vwCl [(h0, Sum.inr (9, [Value.ref m_tape, Value.int (nI ln), Value.int u_thrown, Value.ref m_rule, Value.ref m_rules, Value.int (nI sn), Value.ref m_stair, Value.int s_readStairs, Value.int s_fault, Value.int s_faultPlace, Value.int (nI w), Value.int (nI h), Value.ref m_low, Value.ref m_high, Value.ref m_crack, Value.int (nI bc), Value.ref m_weight, Value.ref m_fire, Value.ref m_crowd, Value.ref m_state, Value.ref m_where, Value.int s_hours, Value.int s_fees, Value.int s_looks, Value.ref m_words, Value.int s_end, Value.int s_next, Value.int s_kind, Value.int s_which, Value.int s_place, Value.int s_read, Value.ref m_told, Value.ref m_breaks, Value.ref m_row, Value.ref m_tried, Value.ref m_steps, Value.ref m_paths])), (m_tape, Sum.inl (y_tape, 400, Sum.inl g_33))] H := hP
          have hD : va_D A [(h0, Sum.inr (9, [Value.ref m_tape, Value.int (nI ln), Value.int u_thrown, Value.ref m_rule, Value.ref m_rules, Value.int (nI sn), Value.ref m_stair, Value.int s_readStairs, Value.int s_fault, Value.int s_faultPlace, Value.int (nI w), Value.int (nI h), Value.ref m_low, Value.ref m_high, Value.ref m_crack, Value.int (nI bc), Value.ref m_weight, Value.ref m_fire, Value.ref m_crowd, Value.ref m_state, Value.ref m_where, Value.int s_hours, Value.int s_fees, Value.int s_looks, Value.ref m_words, Value.int s_end, Value.int s_next, Value.int s_kind, Value.int s_which, Value.int s_place, Value.int s_read, Value.ref m_told, Value.ref m_breaks, Value.ref m_row, Value.ref m_tried, Value.ref m_steps, Value.ref m_paths])), (m_tape, Sum.inl (y_tape, 400, Sum.inl g_33))] := hD
          refine lv_iinc (v := nI (i + 1)) (lv' := [(6, Value.int (nI (i + 1))), (7, Value.int a2), (0, Value.ref h0), (1, Value.int a1), (2, Value.int a2), (3, Value.int a3), (4, Value.int a4), (5, Value.int a5)]) hx hb dX10_feed_107 hl (k := 7) rfl (nI_add i 1) (by decide) rfl (fun ls hl => ?_)
          refine lv_goto (tgt := 23) hx hb dX10_feed_110 (by decide) ?_
          exact ih g_33 (i + 1) (by omega) (by omega) (fd_s hfd (by rw [ez_32, ez_31]; unfold bt fdW; rw [if_neg (Nat.not_lt.mpr c_2n), if_pos c_3n]) eg_33) (by omega) H locs (hP.sub [0, 1] rfl) (hD.sub [0, 1] (by decide) rfl) hS ls (lv_sub hl [2, 3, 4, 5, 6, 7, 0] rfl)
      · skip
        have c_2n : i < 4 := nb_le (by omega) (by omega) c_2
        have c_2 := Int32.not_le.mp c_2
        refine lv_iload_n hx hb dX10_feed_36 rfl (lv_at hl 1 rfl) ?_
        refine lv_goto (tgt := 76) hx hb dX10_feed_37 (by decide) ?_
        refine lv_istore (lv' := [(7, Value.int a1), (0, Value.ref h0), (1, Value.int a1), (2, Value.int a2), (3, Value.int a3), (4, Value.int a4), (5, Value.int a5), (6, Value.int (nI i))]) hx hb dX10_feed_76 hl (by decide) rfl (fun ls hl => ?_)
        refine lv_aload_n hx hb dX10_feed_78 rfl (lv_at hl 1 rfl) ?_
        refine va_get (D := D) (ci := 9) (v := Value.ref m_tape) (C := RX10) (T := TX10) (N := 37) hx hb hts inG_X10 hown hK hP 0 rfl rfl 0 (by decide) (hts _ kw_4_195) (fun _ h9 => h9) rfl dX10_feed_79 ?_
        refine lv_aload_n hx hb dX10_feed_82 rfl (lv_at hl 1 rfl) ?_
        refine va_get (D := D) (ci := 9) (v := Value.int (nI ln)) (C := RX10) (T := TX10) (N := 37) hx hb hts inG_X10 hown hK hP 0 rfl rfl 1 (by decide) (hts _ kw_4_196) (fun _ h9 => h9) rfl dX10_feed_83 ?_
        refine lv_iload hx hb dX10_feed_86 (lv_at hl 7 rfl) ?_
        refine lv_iadd hx hb dX10_feed_88 ?_
        refine lv_topi (fun z_34 ez_34 => ?_)
        obtain rfl : z_34 = nI (ln + i) := ez_34.trans (nI_add ln i)
        refine lv_iload hx hb dX10_feed_89 (lv_at hl 0 rfl) ?_
        refine lv_bipush (v := 24) hx hb dX10_feed_91 (by decide) ?_
        refine lv_bipush (v := 8) hx hb dX10_feed_93 (by decide) ?_
        refine lv_iload hx hb dX10_feed_95 (lv_at hl 7 rfl) ?_
        refine lv_iconst (v := 4) hx hb dX10_feed_97 (by decide) ?_
        refine lv_irem hx hb dX10_feed_98 (by decide) ?_
        refine lv_topi (fun z_35 ez_35 => ?_)
        obtain rfl : z_35 = nI (i % 4) := ez_35.trans (pk_rem (a := i) (d := 4) (by omega) (by decide) (by decide))
        refine lv_imul hx hb dX10_feed_99 ?_
        refine lv_topi (fun z_36 ez_36 => ?_)
        obtain rfl : z_36 = nI (8 * (i % 4)) := ez_36.trans (pk_mul 8 (i % 4))
        refine lv_isub hx hb dX10_feed_100 ?_
        refine lv_topi (fun z_37 ez_37 => ?_)
        obtain rfl : z_37 = nI (24 - 8 * (i % 4)) := ez_37.trans (nI_subN (a := 8 * (i % 4)) (b := 24) (by omega))
        refine lv_ishr hx hb dX10_feed_101 ?_
        refine lv_topi (fun z_38 ez_38 => ?_)
        refine lv_sipush (v := 255) hx hb dX10_feed_102 (by decide) ?_
        refine lv_iand hx hb dX10_feed_105 ?_
        refine lv_topi (fun z_39 ez_39 => ?_)
        refine m_iast hx hb hK hP hD hS 1 0 rfl rfl (ln + i) rfl (by omega) (by decide) dX10_feed_106 (fun g_40 H locs eg_40 hP hD hS => ?_)
        have hP : va_P D vwCl [(h0, Sum.inr (9, [Value.ref m_tape, Value.int (nI ln), Value.int u_thrown, Value.ref m_rule, Value.ref m_rules, Value.int (nI sn), Value.ref m_stair, Value.int s_readStairs, Value.int s_fault, Value.int s_faultPlace, Value.int (nI w), Value.int (nI h), Value.ref m_low, Value.ref m_high, Value.ref m_crack, Value.int (nI bc), Value.ref m_weight, Value.ref m_fire, Value.ref m_crowd, Value.ref m_state, Value.ref m_where, Value.int s_hours, Value.int s_fees, Value.int s_looks, Value.ref m_words, Value.int s_end, Value.int s_next, Value.int s_kind, Value.int s_which, Value.int s_place, Value.int s_read, Value.ref m_told, Value.ref m_breaks, Value.ref m_row, Value.ref m_tried, Value.ref m_steps, Value.ref m_paths])), (m_tape, Sum.inl (y_tape, 400, Sum.inl g_40))] H := hP
        have hD : va_D A [(h0, Sum.inr (9, [Value.ref m_tape, Value.int (nI ln), Value.int u_thrown, Value.ref m_rule, Value.ref m_rules, Value.int (nI sn), Value.ref m_stair, Value.int s_readStairs, Value.int s_fault, Value.int s_faultPlace, Value.int (nI w), Value.int (nI h), Value.ref m_low, Value.ref m_high, Value.ref m_crack, Value.int (nI bc), Value.ref m_weight, Value.ref m_fire, Value.ref m_crowd, Value.ref m_state, Value.ref m_where, Value.int s_hours, Value.int s_fees, Value.int s_looks, Value.ref m_words, Value.int s_end, Value.int s_next, Value.int s_kind, Value.int s_which, Value.int s_place, Value.int s_read, Value.ref m_told, Value.ref m_breaks, Value.ref m_row, Value.ref m_tried, Value.ref m_steps, Value.ref m_paths])), (m_tape, Sum.inl (y_tape, 400, Sum.inl g_40))] := hD
        refine lv_iinc (v := nI (i + 1)) (lv' := [(6, Value.int (nI (i + 1))), (7, Value.int a1), (0, Value.ref h0), (1, Value.int a1), (2, Value.int a2), (3, Value.int a3), (4, Value.int a4), (5, Value.int a5)]) hx hb dX10_feed_107 hl (k := 7) rfl (nI_add i 1) (by decide) rfl (fun ls hl => ?_)
        refine lv_goto (tgt := 23) hx hb dX10_feed_110 (by decide) ?_
        exact ih g_40 (i + 1) (by omega) (by omega) (fd_s hfd (by rw [ez_39, ez_38]; unfold bt fdW; rw [if_pos c_2n]) eg_40) (by omega) H locs (hP.sub [0, 1] rfl) (hD.sub [0, 1] (by decide) rfl) hS ls (lv_sub hl [2, 3, 4, 5, 6, 7, 0] rfl)
set_option maxHeartbeats 4000000 in
set_option maxRecDepth 100000 in
theorem q_feed (l : Launch) (D : va_G) (h0 : Nat) (m_tape : Nat) (ln : Nat) (s_thrown : Int32) (m_rule : Nat) (m_rules : Nat) (sn : Nat) (m_stair : Nat) (s_readStairs : Int32) (s_fault : Int32) (s_faultPlace : Int32) (w : Nat) (h : Nat) (m_low : Nat) (m_high : Nat) (m_crack : Nat) (bc : Nat) (m_weight : Nat) (m_fire : Nat) (m_crowd : Nat) (m_state : Nat) (m_where : Nat) (s_hours : Int32) (s_fees : Int32) (s_looks : Int32) (m_words : Nat) (s_end : Int32) (s_next : Int32) (s_kind : Int32) (s_which : Int32) (s_place : Int32) (s_read : Int32) (m_told : Nat) (m_breaks : Nat) (m_row : Nat) (m_tried : Nat) (m_steps : Nat) (m_paths : Nat) (y_tape : ClassId) (f_tape : Nat → Int32) (a1 : Int32) (a2 : Int32) (a3 : Int32) (a4 : Int32) (a5 : Int32) (hln : ln ≤ 400) : cI l yX10_feed (.code yX10_feed cX10_feed 8 (some .int)) ({ frames := 0, cells := 0, slots := 0, locals := 0 }) D [(y_tape, .int)] [(h0, Sum.inr (9, [Value.ref m_tape, Value.int (nI ln), Value.int s_thrown, Value.ref m_rule, Value.ref m_rules, Value.int (nI sn), Value.ref m_stair, Value.int s_readStairs, Value.int s_fault, Value.int s_faultPlace, Value.int (nI w), Value.int (nI h), Value.ref m_low, Value.ref m_high, Value.ref m_crack, Value.int (nI bc), Value.ref m_weight, Value.ref m_fire, Value.ref m_crowd, Value.ref m_state, Value.ref m_where, Value.int s_hours, Value.int s_fees, Value.int s_looks, Value.ref m_words, Value.int s_end, Value.int s_next, Value.int s_kind, Value.int s_which, Value.int s_place, Value.int s_read, Value.ref m_told, Value.ref m_breaks, Value.ref m_row, Value.ref m_tried, Value.ref m_steps, Value.ref m_paths])), (m_tape, Sum.inl (y_tape, 400, Sum.inl f_tape))] xT [Value.ref h0, Value.int a1, Value.int a2, Value.int a3, Value.int a4, Value.int a5] (S := Int32 × Nat × (Nat → Int32)) (fun r u => match u with | (u_thrown, ln1, g_tape) => (380 < ln ∧ r = (-1) ∧ ln1 = ln ∧ g_tape = f_tape) ∨ (ln ≤ 380 ∧ r = nI (ln + 20) ∧ ln1 = ln + 20 ∧ g_tape = fdT f_tape ln a1 a2 a3 a4 a5)) (fun u => match u with | (u_thrown, ln1, g_tape) => []) (fun u => match u with | (u_thrown, ln1, g_tape) => [(h0, Sum.inr (9, [Value.ref m_tape, Value.int (nI ln1), Value.int u_thrown, Value.ref m_rule, Value.ref m_rules, Value.int (nI sn), Value.ref m_stair, Value.int s_readStairs, Value.int s_fault, Value.int s_faultPlace, Value.int (nI w), Value.int (nI h), Value.ref m_low, Value.ref m_high, Value.ref m_crack, Value.int (nI bc), Value.ref m_weight, Value.ref m_fire, Value.ref m_crowd, Value.ref m_state, Value.ref m_where, Value.int s_hours, Value.int s_fees, Value.int s_looks, Value.ref m_words, Value.int s_end, Value.int s_next, Value.int s_kind, Value.int s_which, Value.int s_place, Value.int s_read, Value.ref m_told, Value.ref m_breaks, Value.ref m_row, Value.ref m_tried, Value.ref m_steps, Value.ref m_paths])), (m_tape, Sum.inl (y_tape, 400, Sum.inl g_tape))]) := by
  intro sz
  refine Met.ofW (cc := cX10_feed) (maxL := 8) (ret := (some .int)) (by decide) rfl ?_
  intro p e s m args below meth c s₁ B hml hv
  obtain ⟨rfl, hsz, hP, hK, hD0, hX⟩ := hv
  have hx := B.exec
  have hb := B.bytes
  have hr := B.returns
  have hts0 := atoms_spec (ws := .code yX10_feed cX10_feed 8 (some .int) :: gw) B.pre
  have hts := fun (w : Cond) (h : w ∈ gw) => hts0 w (List.mem_cons_of_mem _ h)
  have hown : s.vm.findClass RX10 = some m.cls := findClass_of_methodNamed B.named
  have hlocks := B.notSynchronized
  have F : mFix p s m _ c cX10_feed 8 RX10 := ⟨hx, hb, hml, hown, hts⟩
  subst hsz
  have hD := hD0.self (sz := s.heap.size)
  generalize hAe : va_A [(h0, Sum.inr (9, [Value.ref m_tape, Value.int (nI ln), Value.int s_thrown, Value.ref m_rule, Value.ref m_rules, Value.int (nI sn), Value.ref m_stair, Value.int s_readStairs, Value.int s_fault, Value.int s_faultPlace, Value.int (nI w), Value.int (nI h), Value.ref m_low, Value.ref m_high, Value.ref m_crack, Value.int (nI bc), Value.ref m_weight, Value.ref m_fire, Value.ref m_crowd, Value.ref m_state, Value.ref m_where, Value.int s_hours, Value.int s_fees, Value.int s_looks, Value.ref m_words, Value.int s_end, Value.int s_next, Value.int s_kind, Value.int s_which, Value.int s_place, Value.int s_read, Value.ref m_told, Value.ref m_breaks, Value.ref m_row, Value.ref m_tried, Value.ref m_steps, Value.ref m_paths])), (m_tape, Sum.inl (y_tape, 400, Sum.inl f_tape))] s.heap.size = A at hD hX ⊢
  have hA : ∀ q : Nat, s.heap.size ≤ q → A q := fun q h => by rw [← hAe]; exact Or.inr h
  have hS : va_S A s.heap s.heap [] := va_S.rf
  have hl := lv_entry ([Value.ref h0, Value.int a1, Value.int a2, Value.int a3, Value.int a4, Value.int a5]) (n := 8) (Nat.le_of_ble_eq_true rfl)
  rw [lg_entry_eq]
  generalize (lg_sl ([Value.ref h0, Value.int a1, Value.int a2, Value.int a3, Value.int a4, Value.int a5]) ++ List.replicate (8 - (lg_sl ([Value.ref h0, Value.int a1, Value.int a2, Value.int a3, Value.int a4, Value.int a5])).length) Slot.unset).toArray = ls at hl ⊢
  have hl : lv_has ls 8 [(0, Value.ref h0), (1, Value.int a1), (2, Value.int a2), (3, Value.int a3), (4, Value.int a4), (5, Value.int a5)] := hl
  have hP : va_P D vwCl [(h0, Sum.inr (9, [Value.ref m_tape, Value.int (nI ln), Value.int s_thrown, Value.ref m_rule, Value.ref m_rules, Value.int (nI sn), Value.ref m_stair, Value.int s_readStairs, Value.int s_fault, Value.int s_faultPlace, Value.int (nI w), Value.int (nI h), Value.ref m_low, Value.ref m_high, Value.ref m_crack, Value.int (nI bc), Value.ref m_weight, Value.ref m_fire, Value.ref m_crowd, Value.ref m_state, Value.ref m_where, Value.int s_hours, Value.int s_fees, Value.int s_looks, Value.ref m_words, Value.int s_end, Value.int s_next, Value.int s_kind, Value.int s_which, Value.int s_place, Value.int s_read, Value.ref m_told, Value.ref m_breaks, Value.ref m_row, Value.ref m_tried, Value.ref m_steps, Value.ref m_paths])), (m_tape, Sum.inl (y_tape, 400, Sum.inl f_tape))] s.heap := hP
  refine lv_aload_n hx hb dX10_feed_0 rfl (lv_at hl 0 rfl) ?_
  refine lv_iconst (v := 0) hx hb dX10_feed_1 (by decide) ?_
  refine va_put (D := D) (ci := 9) (v := Value.int 0) (ty := .int) (C := RX10) (T := TX10) (N := 37) hx hb hts inG_X10 tyX10 tyX10_ok nmX10 hown hK hP hD hS 0 rfl rfl 2 (by decide) (hts _ kw_4_197) (fun _ h9 => h9) rfl (by decide +kernel) rfl rfl (Nat.le_of_ble_eq_true rfl) dX10_feed_2 (fun H locs hP hD hS => ?_)
  have hP : va_P D vwCl [(h0, Sum.inr (9, [Value.ref m_tape, Value.int (nI ln), Value.int 0, Value.ref m_rule, Value.ref m_rules, Value.int (nI sn), Value.ref m_stair, Value.int s_readStairs, Value.int s_fault, Value.int s_faultPlace, Value.int (nI w), Value.int (nI h), Value.ref m_low, Value.ref m_high, Value.ref m_crack, Value.int (nI bc), Value.ref m_weight, Value.ref m_fire, Value.ref m_crowd, Value.ref m_state, Value.ref m_where, Value.int s_hours, Value.int s_fees, Value.int s_looks, Value.ref m_words, Value.int s_end, Value.int s_next, Value.int s_kind, Value.int s_which, Value.int s_place, Value.int s_read, Value.ref m_told, Value.ref m_breaks, Value.ref m_row, Value.ref m_tried, Value.ref m_steps, Value.ref m_paths])), (m_tape, Sum.inl (y_tape, 400, Sum.inl f_tape))] H := hP
  have hD : va_D A [(h0, Sum.inr (9, [Value.ref m_tape, Value.int (nI ln), Value.int 0, Value.ref m_rule, Value.ref m_rules, Value.int (nI sn), Value.ref m_stair, Value.int s_readStairs, Value.int s_fault, Value.int s_faultPlace, Value.int (nI w), Value.int (nI h), Value.ref m_low, Value.ref m_high, Value.ref m_crack, Value.int (nI bc), Value.ref m_weight, Value.ref m_fire, Value.ref m_crowd, Value.ref m_state, Value.ref m_where, Value.int s_hours, Value.int s_fees, Value.int s_looks, Value.ref m_words, Value.int s_end, Value.int s_next, Value.int s_kind, Value.int s_which, Value.int s_place, Value.int s_read, Value.ref m_told, Value.ref m_breaks, Value.ref m_row, Value.ref m_tried, Value.ref m_steps, Value.ref m_paths])), (m_tape, Sum.inl (y_tape, 400, Sum.inl f_tape))] := hD
  refine lv_aload_n hx hb dX10_feed_5 rfl (lv_at hl 0 rfl) ?_
  refine va_get (D := D) (ci := 9) (v := Value.int (nI ln)) (C := RX10) (T := TX10) (N := 37) hx hb hts inG_X10 hown hK hP 0 rfl rfl 1 (by decide) (hts _ kw_4_196) (fun _ h9 => h9) rfl dX10_feed_6 ?_
  refine lv_bipush (v := 20) hx hb dX10_feed_9 (by decide) ?_
  refine lv_iadd hx hb dX10_feed_11 ?_
  refine lv_topi (fun z_1 ez_1 => ?_)
  obtain rfl : z_1 = nI (ln + 20) := ez_1.trans (nI_add ln 20)
  refine lv_sipush (v := 400) hx hb dX10_feed_12 (by decide) ?_
  refine lv_icmp_le (tgt := 20) hx hb dX10_feed_15 (by decide) (fun c_2 => ?_) (fun c_2 => ?_)
  · skip
    have c_2n : (ln + 20) ≤ 400 := (nI_leI (by omega) (by omega)).mp c_2
    have c_2 := Int32.not_lt.mpr c_2
    refine lv_iconst (v := 0) hx hb dX10_feed_20 (by decide) ?_
    refine lv_istore (lv' := [(6, Value.int 0), (0, Value.ref h0), (1, Value.int a1), (2, Value.int a2), (3, Value.int a3), (4, Value.int a4), (5, Value.int a5)]) hx hb dX10_feed_21 hl (by decide) rfl (fun ls hl => ?_)
    refine lp_q_feed F hA h0 m_tape ln 0 m_rule m_rules sn m_stair s_readStairs s_fault s_faultPlace w h m_low m_high m_crack bc m_weight m_fire m_crowd m_state m_where s_hours s_fees s_looks m_words s_end s_next s_kind s_which s_place s_read m_told m_breaks m_row m_tried m_steps m_paths y_tape a1 a2 a3 a4 a5 f_tape (hK.sub [0] rfl) (fun g_tape_3 h_4 H locs hP hD hS ls hl => ?_) _ f_tape 0 (by omega) (by omega) (fun j => by rw [if_neg (by omega)]) (Nat.lt_succ_self _) _ _ (hP.sub [0, 1] rfl) (hD.sub [0, 1] (by decide) rfl) hS ls (lv_sub hl [1, 2, 3, 4, 5, 6, 0] rfl)
    have h_4 : ∀ j, g_tape_3 j = if ln ≤ j ∧ j < ln + 20 then bt (fdW a1 a2 a3 a4 a5 (j - ln)) ((j - ln) % 4) else f_tape j := h_4
    refine lv_aload_n hx hb dX10_feed_113 rfl (lv_at hl 0 rfl) ?_
    refine lv_dup hx hb dX10_feed_114 rfl ?_
    refine va_get (D := D) (ci := 9) (v := Value.int (nI ln)) (C := RX10) (T := TX10) (N := 37) hx hb hts inG_X10 hown hK hP 0 rfl rfl 1 (by decide) (hts _ kw_4_196) (fun _ h9 => h9) rfl dX10_feed_115 ?_
    refine lv_bipush (v := 20) hx hb dX10_feed_118 (by decide) ?_
    refine lv_iadd hx hb dX10_feed_120 ?_
    refine lv_topi (fun z_5 ez_5 => ?_)
    obtain rfl : z_5 = nI (ln + 20) := ez_5.trans (nI_add ln 20)
    refine va_put (D := D) (ci := 9) (v := Value.int (nI (ln + 20))) (ty := .int) (C := RX10) (T := TX10) (N := 37) hx hb hts inG_X10 tyX10 tyX10_ok nmX10 hown hK hP hD hS 0 rfl rfl 1 (by decide) (hts _ kw_4_196) (fun _ h9 => h9) rfl (by decide +kernel) rfl rfl (Nat.le_of_ble_eq_true rfl) dX10_feed_121 (fun H locs hP hD hS => ?_)
    have hP : va_P D vwCl [(h0, Sum.inr (9, [Value.ref m_tape, Value.int (nI (ln + 20)), Value.int 0, Value.ref m_rule, Value.ref m_rules, Value.int (nI sn), Value.ref m_stair, Value.int s_readStairs, Value.int s_fault, Value.int s_faultPlace, Value.int (nI w), Value.int (nI h), Value.ref m_low, Value.ref m_high, Value.ref m_crack, Value.int (nI bc), Value.ref m_weight, Value.ref m_fire, Value.ref m_crowd, Value.ref m_state, Value.ref m_where, Value.int s_hours, Value.int s_fees, Value.int s_looks, Value.ref m_words, Value.int s_end, Value.int s_next, Value.int s_kind, Value.int s_which, Value.int s_place, Value.int s_read, Value.ref m_told, Value.ref m_breaks, Value.ref m_row, Value.ref m_tried, Value.ref m_steps, Value.ref m_paths])), (m_tape, Sum.inl (y_tape, 400, Sum.inl g_tape_3))] H := hP
    have hD : va_D A [(h0, Sum.inr (9, [Value.ref m_tape, Value.int (nI (ln + 20)), Value.int 0, Value.ref m_rule, Value.ref m_rules, Value.int (nI sn), Value.ref m_stair, Value.int s_readStairs, Value.int s_fault, Value.int s_faultPlace, Value.int (nI w), Value.int (nI h), Value.ref m_low, Value.ref m_high, Value.ref m_crack, Value.int (nI bc), Value.ref m_weight, Value.ref m_fire, Value.ref m_crowd, Value.ref m_state, Value.ref m_where, Value.int s_hours, Value.int s_fees, Value.int s_looks, Value.ref m_words, Value.int s_end, Value.int s_next, Value.int s_kind, Value.int s_which, Value.int s_place, Value.int s_read, Value.ref m_told, Value.ref m_breaks, Value.ref m_row, Value.ref m_tried, Value.ref m_steps, Value.ref m_paths])), (m_tape, Sum.inl (y_tape, 400, Sum.inl g_tape_3))] := hD
    refine lv_aload_n hx hb dX10_feed_124 rfl (lv_at hl 0 rfl) ?_
    refine va_get (D := D) (ci := 9) (v := Value.int (nI (ln + 20))) (C := RX10) (T := TX10) (N := 37) hx hb hts inG_X10 hown hK hP 0 rfl rfl 1 (by decide) (hts _ kw_4_196) (fun _ h9 => h9) rfl dX10_feed_125 ?_
    have hP9 := hP.sub (ws' := [(h0, Sum.inr (9, [Value.ref m_tape, Value.int (nI (ln + 20)), Value.int 0, Value.ref m_rule, Value.ref m_rules, Value.int (nI sn), Value.ref m_stair, Value.int s_readStairs, Value.int s_fault, Value.int s_faultPlace, Value.int (nI w), Value.int (nI h), Value.ref m_low, Value.ref m_high, Value.ref m_crack, Value.int (nI bc), Value.ref m_weight, Value.ref m_fire, Value.ref m_crowd, Value.ref m_state, Value.ref m_where, Value.int s_hours, Value.int s_fees, Value.int s_looks, Value.ref m_words, Value.int s_end, Value.int s_next, Value.int s_kind, Value.int s_which, Value.int s_place, Value.int s_read, Value.ref m_told, Value.ref m_breaks, Value.ref m_row, Value.ref m_tried, Value.ref m_steps, Value.ref m_paths])), (m_tape, Sum.inl (y_tape, 400, Sum.inl g_tape_3))]) [0, 1] rfl
    have hD9 := hD.sub (ws' := [(h0, Sum.inr (9, [Value.ref m_tape, Value.int (nI (ln + 20)), Value.int 0, Value.ref m_rule, Value.ref m_rules, Value.int (nI sn), Value.ref m_stair, Value.int s_readStairs, Value.int s_fault, Value.int s_faultPlace, Value.int (nI w), Value.int (nI h), Value.ref m_low, Value.ref m_high, Value.ref m_crack, Value.int (nI bc), Value.ref m_weight, Value.ref m_fire, Value.ref m_crowd, Value.ref m_state, Value.ref m_where, Value.int s_hours, Value.int s_fees, Value.int s_looks, Value.ref m_words, Value.int s_end, Value.int s_next, Value.int s_kind, Value.int s_which, Value.int s_place, Value.int s_read, Value.ref m_told, Value.ref m_breaks, Value.ref m_row, Value.ref m_tried, Value.ref m_steps, Value.ref m_paths])), (m_tape, Sum.inl (y_tape, 400, Sum.inl g_tape_3))]) [0, 1] (by decide) rfl
    have hK9 := hK.sub (tys' := []) [] rfl
    refine W.widen (k := 0) (n := 0) (by decide) (by decide) ?_
    exact W.iret (v := nI (ln + 20)) hx hb hr (fun t ht hW => ⟨⟨(nI (ln + 20)), (0, ln + 20, g_tape_3), rfl, Or.inr ⟨by omega, rfl, rfl, fd_end h_4⟩, by rw [ht]; exact hP9, va_K.moved hW.alike hK9, hD9⟩, hS.F ht⟩) hS.2.2 dX10_feed_128
  · skip
    have c_2n : 400 < (ln + 20) := nb_le (by omega) (by omega) c_2
    have c_2 := Int32.not_le.mp c_2
    refine lv_iconst (v := -1) hx hb dX10_feed_18 (by decide) ?_
    have hP9 := hP.sub (ws' := [(h0, Sum.inr (9, [Value.ref m_tape, Value.int (nI ln), Value.int 0, Value.ref m_rule, Value.ref m_rules, Value.int (nI sn), Value.ref m_stair, Value.int s_readStairs, Value.int s_fault, Value.int s_faultPlace, Value.int (nI w), Value.int (nI h), Value.ref m_low, Value.ref m_high, Value.ref m_crack, Value.int (nI bc), Value.ref m_weight, Value.ref m_fire, Value.ref m_crowd, Value.ref m_state, Value.ref m_where, Value.int s_hours, Value.int s_fees, Value.int s_looks, Value.ref m_words, Value.int s_end, Value.int s_next, Value.int s_kind, Value.int s_which, Value.int s_place, Value.int s_read, Value.ref m_told, Value.ref m_breaks, Value.ref m_row, Value.ref m_tried, Value.ref m_steps, Value.ref m_paths])), (m_tape, Sum.inl (y_tape, 400, Sum.inl f_tape))]) [0, 1] rfl
    have hD9 := hD.sub (ws' := [(h0, Sum.inr (9, [Value.ref m_tape, Value.int (nI ln), Value.int 0, Value.ref m_rule, Value.ref m_rules, Value.int (nI sn), Value.ref m_stair, Value.int s_readStairs, Value.int s_fault, Value.int s_faultPlace, Value.int (nI w), Value.int (nI h), Value.ref m_low, Value.ref m_high, Value.ref m_crack, Value.int (nI bc), Value.ref m_weight, Value.ref m_fire, Value.ref m_crowd, Value.ref m_state, Value.ref m_where, Value.int s_hours, Value.int s_fees, Value.int s_looks, Value.ref m_words, Value.int s_end, Value.int s_next, Value.int s_kind, Value.int s_which, Value.int s_place, Value.int s_read, Value.ref m_told, Value.ref m_breaks, Value.ref m_row, Value.ref m_tried, Value.ref m_steps, Value.ref m_paths])), (m_tape, Sum.inl (y_tape, 400, Sum.inl f_tape))]) [0, 1] (by decide) rfl
    have hK9 := hK.sub (tys' := []) [] rfl
    refine W.widen (k := 0) (n := 0) (by decide) (by decide) ?_
    exact W.iret (v := (-1)) hx hb hr (fun t ht hW => ⟨⟨((-1)), (0, ln, f_tape), rfl, Or.inl ⟨by omega, rfl, rfl, rfl⟩, by rw [ht]; exact hP9, va_K.moved hW.alike hK9, hD9⟩, hS.F ht⟩) hS.2.2 dX10_feed_19
set_option maxHeartbeats 4000000 in
set_option maxRecDepth 100000 in
theorem q_fault (l : Launch) (D : va_G) (h0 : Nat) (m_tape : Nat) (ln : Nat) (s_thrown : Int32) (m_rule : Nat) (m_rules : Nat) (sn : Nat) (m_stair : Nat) (s_readStairs : Int32) (s_fault : Int32) (s_faultPlace : Int32) (w : Nat) (h : Nat) (m_low : Nat) (m_high : Nat) (m_crack : Nat) (bc : Nat) (m_weight : Nat) (m_fire : Nat) (m_crowd : Nat) (m_state : Nat) (m_where : Nat) (s_hours : Int32) (s_fees : Int32) (s_looks : Int32) (m_words : Nat) (s_end : Int32) (s_next : Int32) (s_kind : Int32) (s_which : Int32) (s_place : Int32) (s_read : Int32) (m_told : Nat) (m_breaks : Nat) (m_row : Nat) (m_tried : Nat) (m_steps : Nat) (m_paths : Nat) (x : Int32) : cI l yX10_fault (.code yX10_fault cX10_fault 2 (some .int)) ({ frames := 0, cells := 0, slots := 0, locals := 0 }) D [] [(h0, Sum.inr (9, [Value.ref m_tape, Value.int (nI ln), Value.int s_thrown, Value.ref m_rule, Value.ref m_rules, Value.int (nI sn), Value.ref m_stair, Value.int s_readStairs, Value.int s_fault, Value.int s_faultPlace, Value.int (nI w), Value.int (nI h), Value.ref m_low, Value.ref m_high, Value.ref m_crack, Value.int (nI bc), Value.ref m_weight, Value.ref m_fire, Value.ref m_crowd, Value.ref m_state, Value.ref m_where, Value.int s_hours, Value.int s_fees, Value.int s_looks, Value.ref m_words, Value.int s_end, Value.int s_next, Value.int s_kind, Value.int s_which, Value.int s_place, Value.int s_read, Value.ref m_told, Value.ref m_breaks, Value.ref m_row, Value.ref m_tried, Value.ref m_steps, Value.ref m_paths]))] xT [Value.ref h0, Value.int x] (S := Int32) (fun r u => match u with | u_thrown => r = (if x = 0 then s_fault else if x = 1 then s_faultPlace else (-1))) (fun u => match u with | u_thrown => []) (fun u => match u with | u_thrown => [(h0, Sum.inr (9, [Value.ref m_tape, Value.int (nI ln), Value.int u_thrown, Value.ref m_rule, Value.ref m_rules, Value.int (nI sn), Value.ref m_stair, Value.int s_readStairs, Value.int s_fault, Value.int s_faultPlace, Value.int (nI w), Value.int (nI h), Value.ref m_low, Value.ref m_high, Value.ref m_crack, Value.int (nI bc), Value.ref m_weight, Value.ref m_fire, Value.ref m_crowd, Value.ref m_state, Value.ref m_where, Value.int s_hours, Value.int s_fees, Value.int s_looks, Value.ref m_words, Value.int s_end, Value.int s_next, Value.int s_kind, Value.int s_which, Value.int s_place, Value.int s_read, Value.ref m_told, Value.ref m_breaks, Value.ref m_row, Value.ref m_tried, Value.ref m_steps, Value.ref m_paths]))]) := by
  intro sz
  refine Met.ofW (cc := cX10_fault) (maxL := 2) (ret := (some .int)) (by decide) rfl ?_
  intro p e s m args below meth c s₁ B hml hv
  obtain ⟨rfl, hsz, hP, hK, hD0, hX⟩ := hv
  have hx := B.exec
  have hb := B.bytes
  have hr := B.returns
  have hts0 := atoms_spec (ws := .code yX10_fault cX10_fault 2 (some .int) :: gw) B.pre
  have hts := fun (w : Cond) (h : w ∈ gw) => hts0 w (List.mem_cons_of_mem _ h)
  have hown : s.vm.findClass RX10 = some m.cls := findClass_of_methodNamed B.named
  have hlocks := B.notSynchronized
  have F : mFix p s m _ c cX10_fault 2 RX10 := ⟨hx, hb, hml, hown, hts⟩
  subst hsz
  have hD := hD0.self (sz := s.heap.size)
  generalize hAe : va_A [(h0, Sum.inr (9, [Value.ref m_tape, Value.int (nI ln), Value.int s_thrown, Value.ref m_rule, Value.ref m_rules, Value.int (nI sn), Value.ref m_stair, Value.int s_readStairs, Value.int s_fault, Value.int s_faultPlace, Value.int (nI w), Value.int (nI h), Value.ref m_low, Value.ref m_high, Value.ref m_crack, Value.int (nI bc), Value.ref m_weight, Value.ref m_fire, Value.ref m_crowd, Value.ref m_state, Value.ref m_where, Value.int s_hours, Value.int s_fees, Value.int s_looks, Value.ref m_words, Value.int s_end, Value.int s_next, Value.int s_kind, Value.int s_which, Value.int s_place, Value.int s_read, Value.ref m_told, Value.ref m_breaks, Value.ref m_row, Value.ref m_tried, Value.ref m_steps, Value.ref m_paths]))] s.heap.size = A at hD hX ⊢
  have hA : ∀ q : Nat, s.heap.size ≤ q → A q := fun q h => by rw [← hAe]; exact Or.inr h
  have hS : va_S A s.heap s.heap [] := va_S.rf
  have hl := lv_entry ([Value.ref h0, Value.int x]) (n := 2) (Nat.le_of_ble_eq_true rfl)
  rw [lg_entry_eq]
  generalize (lg_sl ([Value.ref h0, Value.int x]) ++ List.replicate (2 - (lg_sl ([Value.ref h0, Value.int x])).length) Slot.unset).toArray = ls at hl ⊢
  have hl : lv_has ls 2 [(0, Value.ref h0), (1, Value.int x)] := hl
  have hP : va_P D vwCl [(h0, Sum.inr (9, [Value.ref m_tape, Value.int (nI ln), Value.int s_thrown, Value.ref m_rule, Value.ref m_rules, Value.int (nI sn), Value.ref m_stair, Value.int s_readStairs, Value.int s_fault, Value.int s_faultPlace, Value.int (nI w), Value.int (nI h), Value.ref m_low, Value.ref m_high, Value.ref m_crack, Value.int (nI bc), Value.ref m_weight, Value.ref m_fire, Value.ref m_crowd, Value.ref m_state, Value.ref m_where, Value.int s_hours, Value.int s_fees, Value.int s_looks, Value.ref m_words, Value.int s_end, Value.int s_next, Value.int s_kind, Value.int s_which, Value.int s_place, Value.int s_read, Value.ref m_told, Value.ref m_breaks, Value.ref m_row, Value.ref m_tried, Value.ref m_steps, Value.ref m_paths]))] s.heap := hP
  refine lv_aload_n hx hb dX10_fault_0 rfl (lv_at hl 0 rfl) ?_
  refine lv_iconst (v := 0) hx hb dX10_fault_1 (by decide) ?_
  refine va_put (D := D) (ci := 9) (v := Value.int 0) (ty := .int) (C := RX10) (T := TX10) (N := 37) hx hb hts inG_X10 tyX10 tyX10_ok nmX10 hown hK hP hD hS 0 rfl rfl 2 (by decide) (hts _ kw_4_197) (fun _ h9 => h9) rfl (by decide +kernel) rfl rfl (Nat.le_of_ble_eq_true rfl) dX10_fault_2 (fun H locs hP hD hS => ?_)
  have hP : va_P D vwCl [(h0, Sum.inr (9, [Value.ref m_tape, Value.int (nI ln), Value.int 0, Value.ref m_rule, Value.ref m_rules, Value.int (nI sn), Value.ref m_stair, Value.int s_readStairs, Value.int s_fault, Value.int s_faultPlace, Value.int (nI w), Value.int (nI h), Value.ref m_low, Value.ref m_high, Value.ref m_crack, Value.int (nI bc), Value.ref m_weight, Value.ref m_fire, Value.ref m_crowd, Value.ref m_state, Value.ref m_where, Value.int s_hours, Value.int s_fees, Value.int s_looks, Value.ref m_words, Value.int s_end, Value.int s_next, Value.int s_kind, Value.int s_which, Value.int s_place, Value.int s_read, Value.ref m_told, Value.ref m_breaks, Value.ref m_row, Value.ref m_tried, Value.ref m_steps, Value.ref m_paths]))] H := hP
  have hD : va_D A [(h0, Sum.inr (9, [Value.ref m_tape, Value.int (nI ln), Value.int 0, Value.ref m_rule, Value.ref m_rules, Value.int (nI sn), Value.ref m_stair, Value.int s_readStairs, Value.int s_fault, Value.int s_faultPlace, Value.int (nI w), Value.int (nI h), Value.ref m_low, Value.ref m_high, Value.ref m_crack, Value.int (nI bc), Value.ref m_weight, Value.ref m_fire, Value.ref m_crowd, Value.ref m_state, Value.ref m_where, Value.int s_hours, Value.int s_fees, Value.int s_looks, Value.ref m_words, Value.int s_end, Value.int s_next, Value.int s_kind, Value.int s_which, Value.int s_place, Value.int s_read, Value.ref m_told, Value.ref m_breaks, Value.ref m_row, Value.ref m_tried, Value.ref m_steps, Value.ref m_paths]))] := hD
  refine lv_iload_n hx hb dX10_fault_5 rfl (lv_at hl 1 rfl) ?_
  refine lv_if_ne (tgt := 16) hx hb dX10_fault_6 (by decide) (fun c_1 => ?_) (fun c_1 => ?_)
  · skip
    refine lv_iload_n hx hb dX10_fault_16 rfl (lv_at hl 1 rfl) ?_
    refine lv_iconst (v := 1) hx hb dX10_fault_17 (by decide) ?_
    refine lv_icmp_ne (tgt := 28) hx hb dX10_fault_18 (by decide) (fun c_2 => ?_) (fun c_2 => ?_)
    · skip
      refine lv_iconst (v := -1) hx hb dX10_fault_28 (by decide) ?_
      have hP9 := hP.sub (ws' := [(h0, Sum.inr (9, [Value.ref m_tape, Value.int (nI ln), Value.int 0, Value.ref m_rule, Value.ref m_rules, Value.int (nI sn), Value.ref m_stair, Value.int s_readStairs, Value.int s_fault, Value.int s_faultPlace, Value.int (nI w), Value.int (nI h), Value.ref m_low, Value.ref m_high, Value.ref m_crack, Value.int (nI bc), Value.ref m_weight, Value.ref m_fire, Value.ref m_crowd, Value.ref m_state, Value.ref m_where, Value.int s_hours, Value.int s_fees, Value.int s_looks, Value.ref m_words, Value.int s_end, Value.int s_next, Value.int s_kind, Value.int s_which, Value.int s_place, Value.int s_read, Value.ref m_told, Value.ref m_breaks, Value.ref m_row, Value.ref m_tried, Value.ref m_steps, Value.ref m_paths]))]) [0] rfl
      have hD9 := hD.sub (ws' := [(h0, Sum.inr (9, [Value.ref m_tape, Value.int (nI ln), Value.int 0, Value.ref m_rule, Value.ref m_rules, Value.int (nI sn), Value.ref m_stair, Value.int s_readStairs, Value.int s_fault, Value.int s_faultPlace, Value.int (nI w), Value.int (nI h), Value.ref m_low, Value.ref m_high, Value.ref m_crack, Value.int (nI bc), Value.ref m_weight, Value.ref m_fire, Value.ref m_crowd, Value.ref m_state, Value.ref m_where, Value.int s_hours, Value.int s_fees, Value.int s_looks, Value.ref m_words, Value.int s_end, Value.int s_next, Value.int s_kind, Value.int s_which, Value.int s_place, Value.int s_read, Value.ref m_told, Value.ref m_breaks, Value.ref m_row, Value.ref m_tried, Value.ref m_steps, Value.ref m_paths]))]) [0] (by decide) rfl
      have hK9 := hK.sub (tys' := []) [] rfl
      refine W.widen (k := 0) (n := 0) (by decide) (by decide) ?_
      exact W.iret (v := (-1)) hx hb hr (fun t ht hW => ⟨⟨((-1)), 0, rfl, ((if_neg c_1).trans (if_neg c_2)).symm, by rw [ht]; exact hP9, va_K.moved hW.alike hK9, hD9⟩, hS.F ht⟩) hS.2.2 dX10_fault_29
    · skip
      refine lv_aload_n hx hb dX10_fault_21 rfl (lv_at hl 0 rfl) ?_
      refine va_get (D := D) (ci := 9) (v := Value.int s_faultPlace) (C := RX10) (T := TX10) (N := 37) hx hb hts inG_X10 hown hK hP 0 rfl rfl 9 (by decide) (hts _ kw_4_204) (fun _ h9 => h9) rfl dX10_fault_22 ?_
      refine lv_goto (tgt := 29) hx hb dX10_fault_25 (by decide) ?_
      have hP9 := hP.sub (ws' := [(h0, Sum.inr (9, [Value.ref m_tape, Value.int (nI ln), Value.int 0, Value.ref m_rule, Value.ref m_rules, Value.int (nI sn), Value.ref m_stair, Value.int s_readStairs, Value.int s_fault, Value.int s_faultPlace, Value.int (nI w), Value.int (nI h), Value.ref m_low, Value.ref m_high, Value.ref m_crack, Value.int (nI bc), Value.ref m_weight, Value.ref m_fire, Value.ref m_crowd, Value.ref m_state, Value.ref m_where, Value.int s_hours, Value.int s_fees, Value.int s_looks, Value.ref m_words, Value.int s_end, Value.int s_next, Value.int s_kind, Value.int s_which, Value.int s_place, Value.int s_read, Value.ref m_told, Value.ref m_breaks, Value.ref m_row, Value.ref m_tried, Value.ref m_steps, Value.ref m_paths]))]) [0] rfl
      have hD9 := hD.sub (ws' := [(h0, Sum.inr (9, [Value.ref m_tape, Value.int (nI ln), Value.int 0, Value.ref m_rule, Value.ref m_rules, Value.int (nI sn), Value.ref m_stair, Value.int s_readStairs, Value.int s_fault, Value.int s_faultPlace, Value.int (nI w), Value.int (nI h), Value.ref m_low, Value.ref m_high, Value.ref m_crack, Value.int (nI bc), Value.ref m_weight, Value.ref m_fire, Value.ref m_crowd, Value.ref m_state, Value.ref m_where, Value.int s_hours, Value.int s_fees, Value.int s_looks, Value.ref m_words, Value.int s_end, Value.int s_next, Value.int s_kind, Value.int s_which, Value.int s_place, Value.int s_read, Value.ref m_told, Value.ref m_breaks, Value.ref m_row, Value.ref m_tried, Value.ref m_steps, Value.ref m_paths]))]) [0] (by decide) rfl
      have hK9 := hK.sub (tys' := []) [] rfl
      refine W.widen (k := 0) (n := 0) (by decide) (by decide) ?_
      exact W.iret (v := s_faultPlace) hx hb hr (fun t ht hW => ⟨⟨s_faultPlace, 0, rfl, ((if_neg c_1).trans (if_pos c_2)).symm, by rw [ht]; exact hP9, va_K.moved hW.alike hK9, hD9⟩, hS.F ht⟩) hS.2.2 dX10_fault_29
  · skip
    refine lv_aload_n hx hb dX10_fault_9 rfl (lv_at hl 0 rfl) ?_
    refine va_get (D := D) (ci := 9) (v := Value.int s_fault) (C := RX10) (T := TX10) (N := 37) hx hb hts inG_X10 hown hK hP 0 rfl rfl 8 (by decide) (hts _ kw_4_203) (fun _ h9 => h9) rfl dX10_fault_10 ?_
    refine lv_goto (tgt := 29) hx hb dX10_fault_13 (by decide) ?_
    have hP9 := hP.sub (ws' := [(h0, Sum.inr (9, [Value.ref m_tape, Value.int (nI ln), Value.int 0, Value.ref m_rule, Value.ref m_rules, Value.int (nI sn), Value.ref m_stair, Value.int s_readStairs, Value.int s_fault, Value.int s_faultPlace, Value.int (nI w), Value.int (nI h), Value.ref m_low, Value.ref m_high, Value.ref m_crack, Value.int (nI bc), Value.ref m_weight, Value.ref m_fire, Value.ref m_crowd, Value.ref m_state, Value.ref m_where, Value.int s_hours, Value.int s_fees, Value.int s_looks, Value.ref m_words, Value.int s_end, Value.int s_next, Value.int s_kind, Value.int s_which, Value.int s_place, Value.int s_read, Value.ref m_told, Value.ref m_breaks, Value.ref m_row, Value.ref m_tried, Value.ref m_steps, Value.ref m_paths]))]) [0] rfl
    have hD9 := hD.sub (ws' := [(h0, Sum.inr (9, [Value.ref m_tape, Value.int (nI ln), Value.int 0, Value.ref m_rule, Value.ref m_rules, Value.int (nI sn), Value.ref m_stair, Value.int s_readStairs, Value.int s_fault, Value.int s_faultPlace, Value.int (nI w), Value.int (nI h), Value.ref m_low, Value.ref m_high, Value.ref m_crack, Value.int (nI bc), Value.ref m_weight, Value.ref m_fire, Value.ref m_crowd, Value.ref m_state, Value.ref m_where, Value.int s_hours, Value.int s_fees, Value.int s_looks, Value.ref m_words, Value.int s_end, Value.int s_next, Value.int s_kind, Value.int s_which, Value.int s_place, Value.int s_read, Value.ref m_told, Value.ref m_breaks, Value.ref m_row, Value.ref m_tried, Value.ref m_steps, Value.ref m_paths]))]) [0] (by decide) rfl
    have hK9 := hK.sub (tys' := []) [] rfl
    refine W.widen (k := 0) (n := 0) (by decide) (by decide) ?_
    exact W.iret (v := s_fault) hx hb hr (fun t ht hW => ⟨⟨s_fault, 0, rfl, (if_pos c_1).symm, by rw [ht]; exact hP9, va_K.moved hW.alike hK9, hD9⟩, hS.F ht⟩) hS.2.2 dX10_fault_29
