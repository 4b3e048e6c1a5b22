theorem dX10_hour_31 : decode cX10_hour 31 = .ok (.iload_n 2, 1) := by decide +kernel
theorem dX10_hour_32 : decode cX10_hour 32 = .ok (.bipush 100, 2) := by decide +kernel
theorem dX10_hour_34 : decode cX10_hour 34 = .ok (.if_icmp .ge 98, 3) := by decide +kernel
theorem dX10_hour_37 : decode cX10_hour 37 = .ok (.iload_n 2, 1) := by decide +kernel
theorem dX10_hour_38 : decode cX10_hour 38 = .ok (.bipush 10, 2) := by decide +kernel
theorem dX10_hour_40 : decode cX10_hour 40 = .ok (.irem, 1) := by decide +kernel
theorem dX10_hour_41 : decode cX10_hour 41 = .ok (.aload_n 0, 1) := by decide +kernel
theorem dX10_hour_42 : decode cX10_hour 42 = .ok (.getfield 26, 3) := by decide +kernel
theorem dX10_hour_45 : decode cX10_hour 45 = .ok (.if_icmp .ge 81, 3) := by decide +kernel
theorem dX10_hour_126 : decode cX10_hour 126 = .ok (.iinc 2 1, 3) := by decide +kernel
theorem dX10_hour_129 : decode cX10_hour 129 = .ok (.goto (-98), 3) := by decide +kernel
theorem dX10_hour_48 : decode cX10_hour 48 = .ok (.iload_n 2, 1) := by decide +kernel
theorem dX10_hour_49 : decode cX10_hour 49 = .ok (.bipush 10, 2) := by decide +kernel
theorem dX10_hour_51 : decode cX10_hour 51 = .ok (.idiv, 1) := by decide +kernel
theorem dX10_hour_52 : decode cX10_hour 52 = .ok (.aload_n 0, 1) := by decide +kernel
theorem dX10_hour_53 : decode cX10_hour 53 = .ok (.getfield 29, 3) := by decide +kernel
theorem dX10_hour_56 : decode cX10_hour 56 = .ok (.if_icmp .lt 6, 3) := by decide +kernel
theorem dX10_hour_62 : decode cX10_hour 62 = .ok (.aload_n 0, 1) := by decide +kernel
theorem dX10_hour_63 : decode cX10_hour 63 = .ok (.getfield 32, 3) := by decide +kernel
theorem dX10_hour_66 : decode cX10_hour 66 = .ok (.iload_n 2, 1) := by decide +kernel
theorem dX10_hour_67 : decode cX10_hour 67 = .ok (.iaload, 1) := by decide +kernel
theorem dX10_hour_68 : decode cX10_hour 68 = .ok (.aload_n 0, 1) := by decide +kernel
theorem dX10_hour_69 : decode cX10_hour 69 = .ok (.getfield 13, 3) := by decide +kernel
theorem dX10_hour_72 : decode cX10_hour 72 = .ok (.iconst 5, 1) := by decide +kernel
theorem dX10_hour_73 : decode cX10_hour 73 = .ok (.iaload, 1) := by decide +kernel
theorem dX10_hour_74 : decode cX10_hour 74 = .ok (.if_icmp .lt 10, 3) := by decide +kernel
theorem dX10_hour_84 : decode cX10_hour 84 = .ok (.iload_n 1, 1) := by decide +kernel
theorem dX10_hour_85 : decode cX10_hour 85 = .ok (.aload_n 0, 1) := by decide +kernel
theorem dX10_hour_86 : decode cX10_hour 86 = .ok (.iload_n 2, 1) := by decide +kernel
theorem kw_5_185 : Cond.methodLink RX10 186 yX10_fires ∈ gw := gw_t5 (List.mem_of_getElem? (i := 185) (by decide +kernel)) (by decide +kernel)
theorem kw_5_187 : Cond.instanceMethod yX10_fires ∈ gw := gw_t5 (List.mem_of_getElem? (i := 187) (by decide +kernel)) (by decide +kernel)
theorem ks_4_3 : Cond.selects RX10 yX10_fires yX10_fires ∈ gw := gw_s (y := yX10_fires) (n := 37) (List.mem_append_right _ (List.mem_append_right _ (List.mem_append_right _ (List.mem_of_getElem? (i := 3) (by decide +kernel)))))
theorem kw_5_188 : Cond.code yX10_fires cX10_fires 5 (some .int) ∈ gw := gw_t5 (List.mem_of_getElem? (i := 188) (by decide +kernel)) (by decide +kernel)
theorem gk_X10_186 : GoodIn gw (wsV RX10 186 RX10 yX10_fires (.code yX10_fires cX10_fires 5 (some .int) :: gw)) ∧ (yX10_fires.cls = RX10 ∧ yX10_fires.cls ≠ "java/lang/invoke/MethodHandle" ∧ yX10_fires.cls ≠ "java/lang/invoke/VarHandle" ∧ (parseMethodDescriptor yX10_fires.desc).map (fun d => d.parameters.length) = some 1) := ⟨gi_V kw_5_185 kw_5_187 ks_4_3 kw_1_11 kw_5_188, by decide +kernel⟩
theorem dX10_hour_87 : decode cX10_hour 87 = .ok (.invokevirtual 186, 3) := by decide +kernel
theorem dX10_hour_90 : decode cX10_hour 90 = .ok (.isub, 1) := by decide +kernel
theorem dX10_hour_91 : decode cX10_hour 91 = .ok (.istore_n 3, 1) := by decide +kernel
theorem dX10_hour_92 : decode cX10_hour 92 = .ok (.aload_n 0, 1) := by decide +kernel
theorem dX10_hour_93 : decode cX10_hour 93 = .ok (.getfield 32, 3) := by decide +kernel
theorem dX10_hour_96 : decode cX10_hour 96 = .ok (.iload_n 2, 1) := by decide +kernel
theorem dX10_hour_97 : decode cX10_hour 97 = .ok (.aload_n 0, 1) := by decide +kernel
theorem dX10_hour_98 : decode cX10_hour 98 = .ok (.getfield 32, 3) := by decide +kernel
theorem dX10_hour_101 : decode cX10_hour 101 = .ok (.iload_n 2, 1) := by decide +kernel
theorem dX10_hour_102 : decode cX10_hour 102 = .ok (.iaload, 1) := by decide +kernel
theorem dX10_hour_103 : decode cX10_hour 103 = .ok (.iload_n 3, 1) := by decide +kernel
theorem dX10_hour_104 : decode cX10_hour 104 = .ok (.iadd, 1) := by decide +kernel
theorem kw_5_189 : Cond.methodLink RX10 189 yX10_within ∈ gw := gw_t5 (List.mem_of_getElem? (i := 189) (by decide +kernel)) (by decide +kernel)
theorem kw_5_190 : Cond.static yX10_within ∈ gw := gw_t5 (List.mem_of_getElem? (i := 190) (by decide +kernel)) (by decide +kernel)
theorem kw_5_191 : Cond.code yX10_within cX10_within 1 (some .int) ∈ gw := gw_t5 (List.mem_of_getElem? (i := 191) (by decide +kernel)) (by decide +kernel)
theorem gk_X10_189 : GoodIn gw (wsS RX10 189 yX10_within (.code yX10_within cX10_within 1 (some .int) :: gw)) ∧ (yX10_within.cls = RX10 ∧ yX10_within.cls ≠ "java/lang/invoke/MethodHandle" ∧ yX10_within.cls ≠ "java/lang/invoke/VarHandle" ∧ (parseMethodDescriptor yX10_within.desc).map (fun d => d.parameters.length) = some 1) := ⟨gi_S kw_5_189 kw_5_190 kw_1_11 kw_5_191, by decide +kernel⟩
theorem dX10_hour_105 : decode cX10_hour 105 = .ok (.invokestatic 189, 3) := by decide +kernel
theorem dX10_hour_108 : decode cX10_hour 108 = .ok (.iastore, 1) := by decide +kernel
theorem dX10_hour_109 : decode cX10_hour 109 = .ok (.aload_n 0, 1) := by decide +kernel
theorem dX10_hour_110 : decode cX10_hour 110 = .ok (.getfield 35, 3) := by decide +kernel
theorem dX10_hour_113 : decode cX10_hour 113 = .ok (.iload_n 2, 1) := by decide +kernel
theorem dX10_hour_114 : decode cX10_hour 114 = .ok (.aload_n 0, 1) := by decide +kernel
theorem dX10_hour_115 : decode cX10_hour 115 = .ok (.getfield 35, 3) := by decide +kernel
theorem dX10_hour_118 : decode cX10_hour 118 = .ok (.iload_n 2, 1) := by decide +kernel
theorem dX10_hour_119 : decode cX10_hour 119 = .ok (.iaload, 1) := by decide +kernel
theorem dX10_hour_120 : decode cX10_hour 120 = .ok (.iload_n 3, 1) := by decide +kernel
theorem dX10_hour_121 : decode cX10_hour 121 = .ok (.iadd, 1) := by decide +kernel
theorem dX10_hour_122 : decode cX10_hour 122 = .ok (.invokestatic 189, 3) := by decide +kernel
theorem dX10_hour_125 : decode cX10_hour 125 = .ok (.iastore, 1) := by decide +kernel
theorem dX10_hour_77 : decode cX10_hour 77 = .ok (.aload_n 0, 1) := by decide +kernel
theorem dX10_hour_78 : decode cX10_hour 78 = .ok (.getfield 38, 3) := by decide +kernel
theorem dX10_hour_81 : decode cX10_hour 81 = .ok (.iload_n 2, 1) := by decide +kernel
theorem dX10_hour_82 : decode cX10_hour 82 = .ok (.iconst 0, 1) := by decide +kernel
theorem dX10_hour_83 : decode cX10_hour 83 = .ok (.bastore, 1) := by decide +kernel
theorem dX10_hour_59 : decode cX10_hour 59 = .ok (.goto 67, 3) := by decide +kernel
set_option maxHeartbeats 4000000 in
set_option maxRecDepth 100000 in
theorem lp_m_hour1 {p : Program} {l : Launch} {e : Env} {s : State} {m : MethodId} {args : Array Value} {below : List Frame} {meth : Method} {c : Code} {Q : State → Prop} {A : Nat → Prop} {D : va_G} (F : mFix p s m args c cX10_hour 6 RX10) (hA : ∀ q, s.heap.size ≤ q → A q) (h0 : Nat) (m_tape : Nat) (m_rule : Nat) (m_rules : Nat) (m_stair : Nat) (m_low : Nat) (m_high : Nat) (m_crack : Nat) (m_weight : Nat) (m_fire : Nat) (m_crowd : Nat) (m_state : Nat) (m_where : Nat) (m_words : Nat) (m_told : Nat) (m_breaks : Nat) (m_row : Nat) (m_tried : Nat) (m_steps : Nat) (m_paths : Nat) (y_low : ClassId) (y_high : ClassId) (y_crack : ClassId) (y_rule : ClassId) (y_breaks : ClassId) (f_rule : Nat → Int32) (f_breaks : Nat → Int32) (co : Int32) (hK : va_K D vwCl [(y_low, .int), (y_high, .int), (y_crack, .boolean), (y_rule, .int), (y_breaks, .boolean)] s)
    (kx_132 : ∀ (ga : Nat → Int32) (gb : Nat → Int32) (gc : Nat → Int32), ∀ (H : Heap) (locs : List Loc), va_P D vwCl [(h0, .inr (9, [.ref m_tape, .int 0, .int 0, .ref m_rule, .ref m_rules, .int 0, .ref m_stair, .int 0, .int 0, .int ((-1)), .int 5, .int 5, .ref m_low, .ref m_high, .ref m_crack, .int 0, .ref m_weight, .ref m_fire, .ref m_crowd, .ref m_state, .ref m_where, .int 1, .int 0, .int 0, .ref m_words, .int 0, .int 0, .int 0, .int 0, .int 0, .int 0, .ref m_told, .ref m_breaks, .ref m_row, .ref m_tried, .ref m_steps, .ref m_paths])), (m_low, .inl (y_low, 100, .inl ga)), (m_high, .inl (y_high, 100, .inl gb)), (m_crack, .inl (y_crack, 100, .inl gc)), (m_rule, .inl (y_rule, 8, .inl f_rule)), (m_breaks, .inl (y_breaks, 100, .inl f_breaks))] H → va_D A [(h0, .inr (9, [.ref m_tape, .int 0, .int 0, .ref m_rule, .ref m_rules, .int 0, .ref m_stair, .int 0, .int 0, .int ((-1)), .int 5, .int 5, .ref m_low, .ref m_high, .ref m_crack, .int 0, .ref m_weight, .ref m_fire, .ref m_crowd, .ref m_state, .ref m_where, .int 1, .int 0, .int 0, .ref m_words, .int 0, .int 0, .int 0, .int 0, .int 0, .int 0, .ref m_told, .ref m_breaks, .ref m_row, .ref m_tried, .ref m_steps, .ref m_paths])), (m_low, .inl (y_low, 100, .inl ga)), (m_high, .inl (y_high, 100, .inl gb)), (m_crack, .inl (y_crack, 100, .inl gc)), (m_rule, .inl (y_rule, 8, .inl f_rule)), (m_breaks, .inl (y_breaks, 100, .inl f_breaks))] → va_S A s.heap H locs → ∀ ls : Array Slot, lv_has ls 6 [(0, .ref h0)] → W p l e ({ frames := 2, cells := 0, slots := 0, locals := 45 }) s m args below meth c H locs 0 0 Q (F0 m 132 ls [])) :
    ∀ n : Nat, ∀ (ga : Nat → Int32) (gb : Nat → Int32) (gc : Nat → Int32) (i : Nat), (i ≤ 100) → (100 - i) < n → ∀ (H : Heap) (locs : List Loc), va_P D vwCl [(h0, .inr (9, [.ref m_tape, .int 0, .int 0, .ref m_rule, .ref m_rules, .int 0, .ref m_stair, .int 0, .int 0, .int ((-1)), .int 5, .int 5, .ref m_low, .ref m_high, .ref m_crack, .int 0, .ref m_weight, .ref m_fire, .ref m_crowd, .ref m_state, .ref m_where, .int 1, .int 0, .int 0, .ref m_words, .int 0, .int 0, .int 0, .int 0, .int 0, .int 0, .ref m_told, .ref m_breaks, .ref m_row, .ref m_tried, .ref m_steps, .ref m_paths])), (m_low, .inl (y_low, 100, .inl ga)), (m_high, .inl (y_high, 100, .inl gb)), (m_crack, .inl (y_crack, 100, .inl gc)), (m_rule, .inl (y_rule, 8, .inl f_rule)), (m_breaks, .inl (y_breaks, 100, .inl f_breaks))] H → va_D A [(h0, .inr (9, [.ref m_tape, .int 0, .int 0, .ref m_rule, .ref m_rules, .int 0, .ref m_stair, .int 0, .int 0, .int ((-1)), .int 5, .int 5, .ref m_low, .ref m_high, .ref m_crack, .int 0, .ref m_weight, .ref m_fire, .ref m_crowd, .ref m_state, .ref m_where, .int 1, .int 0, .int 0, .ref m_words, .int 0, .int 0, .int 0, .int 0, .int 0, .int 0, .ref m_told, .ref m_breaks, .ref m_row, .ref m_tried, .ref m_steps, .ref m_paths])), (m_low, .inl (y_low, 100, .inl ga)), (m_high, .inl (y_high, 100, .inl gb)), (m_crack, .inl (y_crack, 100, .inl gc)), (m_rule, .inl (y_rule, 8, .inl f_rule)), (m_breaks, .inl (y_breaks, 100, .inl f_breaks))] → va_S A s.heap H locs → ∀ ls : Array Slot, lv_has ls 6 [(0, .ref h0), (1, .int co), (2, .int (nI i))] → W p l e ({ frames := 2, cells := 0, slots := 0, locals := 45 }) s m args below meth c H locs 0 0 Q (F0 m 31 ls []) := by
  intro n
  induction n with
  | zero => intro ga gb gc i hi hn; exact absurd hn (Nat.not_lt_zero _)
  | succ n ih =>
    intro ga gb gc i hi hn H locs hP hD hS ls hl
    obtain ⟨hx, hb, hml, hown, hts⟩ := id F
    refine lv_iload_n hx hb dX10_hour_31 rfl (lv_at hl 2 rfl) ?_
    refine lv_bipush (v := 100) hx hb dX10_hour_32 (by decide) ?_
    refine lv_icmp_ge (tgt := 132) hx hb dX10_hour_34 (by decide) (fun c_1 => ?_) (fun c_1 => ?_)
    · skip
      have c_1n : 100 ≤ i := (nI_leI (by omega) (by omega)).mp c_1
      have c_1 := Int32.not_lt.mpr c_1
      exact kx_132 ga gb gc  H locs (hP.sub [0, 1, 2, 3, 4, 5] rfl) (hD.sub [0, 1, 2, 3, 4, 5] (by decide) rfl) hS ls (lv_sub hl [0] rfl)
    · skip
      have c_1n : i < 100 := nb_le (by omega) (by omega) c_1
      have c_1 := Int32.not_le.mp c_1
      refine lv_iload_n hx hb dX10_hour_37 rfl (lv_at hl 2 rfl) ?_
      refine lv_bipush (v := 10) hx hb dX10_hour_38 (by decide) ?_
      refine lv_irem hx hb dX10_hour_40 (by decide) ?_
      refine lv_topi (fun z_2 ez_2 => ?_)
      obtain rfl : z_2 = nI (i % 10) := ez_2.trans (pk_rem (a := i) (d := 10) (by omega) (by decide) (by decide))
      refine lv_aload_n hx hb dX10_hour_41 rfl (lv_at hl 0 rfl) ?_
      refine va_get (D := D) (ci := 9) (v := .int 5) (C := RX10) (T := TX10) (N := 37) hx hb hts inG_X10 hown hK hP 0 rfl rfl 10 (by decide) (hts _ kw_4_205) (fun _ h9 => h9) rfl dX10_hour_42 ?_
      refine lv_icmp_ge (tgt := 126) hx hb dX10_hour_45 (by decide) (fun c_3 => ?_) (fun c_3 => ?_)
      · skip
        have c_3n : 5 ≤ (i % 10) := (nI_leI (by omega) (by omega)).mp c_3
        have c_3 := Int32.not_lt.mpr c_3
        refine lv_iinc (v := nI (i + 1)) (lv' := [(2, .int (nI (i + 1))), (0, .ref h0), (1, .int co)]) hx hb dX10_hour_126 hl (k := 2) rfl (nI_add i 1) (by decide) rfl (fun ls hl => ?_)
        refine lv_goto (tgt := 31) hx hb dX10_hour_129 (by decide) ?_
        exact ih ga gb gc (i + 1) (by omega) (by omega) H locs (hP.sub [0, 1, 2, 3, 4, 5] rfl) (hD.sub [0, 1, 2, 3, 4, 5] (by decide) rfl) hS ls (lv_sub hl [1, 2, 0] rfl)
      · skip
        have c_3n : (i % 10) < 5 := nb_le (by omega) (by omega) c_3
        have c_3 := Int32.not_le.mp c_3
        refine lv_iload_n hx hb dX10_hour_48 rfl (lv_at hl 2 rfl) ?_
        refine lv_bipush (v := 10) hx hb dX10_hour_49 (by decide) ?_
        refine lv_idiv hx hb dX10_hour_51 (by decide) ?_
        refine lv_topi (fun z_4 ez_4 => ?_)
        obtain rfl : z_4 = nI (i / 10) := ez_4.trans (pk_div (a := i) (d := 10) (by omega) (by decide) (by decide))
        refine lv_aload_n hx hb dX10_hour_52 rfl (lv_at hl 0 rfl) ?_
        refine va_get (D := D) (ci := 9) (v := .int 5) (C := RX10) (T := TX10) (N := 37) hx hb hts inG_X10 hown hK hP 0 rfl rfl 11 (by decide) (hts _ kw_4_206) (fun _ h9 => h9) rfl dX10_hour_53 ?_
        refine lv_icmp_lt (tgt := 62) hx hb dX10_hour_56 (by decide) (fun c_5 => ?_) (fun c_5 => ?_)
        · skip
          have c_5n : (i / 10) < 5 := (nI_ltI (by omega) (by omega)).mp c_5
          refine lv_aload_n hx hb dX10_hour_62 rfl (lv_at hl 0 rfl) ?_
          refine va_get (D := D) (ci := 9) (v := .ref m_low) (C := RX10) (T := TX10) (N := 37) hx hb hts inG_X10 hown hK hP 0 rfl rfl 12 (by decide) (hts _ kw_4_207) (fun _ h9 => h9) rfl dX10_hour_63 ?_
          refine lv_iload_n hx hb dX10_hour_66 rfl (lv_at hl 2 rfl) ?_
          refine m_iald hx hb hK hP 1 0 rfl rfl i rfl (by omega) (by decide) dX10_hour_67 ?_
          refine lv_topi (fun v_6 ev_6 => ?_)
          refine lv_aload_n hx hb dX10_hour_68 rfl (lv_at hl 0 rfl) ?_
          refine va_get (D := D) (ci := 9) (v := .ref m_rule) (C := RX10) (T := TX10) (N := 37) hx hb hts inG_X10 hown hK hP 0 rfl rfl 3 (by decide) (hts _ kw_4_198) (fun _ h9 => h9) rfl dX10_hour_69 ?_
          refine lv_iconst (v := 5) hx hb dX10_hour_72 (by decide) ?_
          refine m_iald hx hb hK hP 4 3 rfl rfl 5 rfl (by decide) (by decide) dX10_hour_73 ?_
          refine lv_topi (fun v_7 ev_7 => ?_)
          refine lv_icmp_lt (tgt := 84) hx hb dX10_hour_74 (by decide) (fun c_8 => ?_) (fun c_8 => ?_)
          · skip
            refine lv_iload_n hx hb dX10_hour_84 rfl (lv_at hl 1 rfl) ?_
            refine lv_aload_n hx hb dX10_hour_85 rfl (lv_at hl 0 rfl) ?_
            refine lv_iload_n hx hb dX10_hour_86 rfl (lv_at hl 2 rfl) ?_
            refine mc_Vi (rest := [.int co]) (wr := [(m_low, .inl (y_low, 100, .inl ga)), (m_high, .inl (y_high, 100, .inl gb)), (m_crack, .inl (y_crack, 100, .inl gc)), (m_rule, .inl (y_rule, 8, .inl f_rule)), (m_breaks, .inl (y_breaks, 100, .inl f_breaks))]) F hK hP hD hS hA (m_fires0 l D h0 m_tape m_rule m_rules m_stair m_low m_high m_crack m_weight m_fire m_crowd m_state m_where m_words m_told m_breaks m_row m_tried m_steps m_paths 0 0 0 0 0 ((-1)) 5 5 1 0 0 0 0 0 0 0 0 (nI i) ) ⟨gk_X10_186.1, gk_X10_186.2, Nat.le_of_ble_eq_true rfl, Nat.le_of_ble_eq_true rfl⟩ [0] [1, 2, 3, 4, 5] [] ⟨rfl, rfl, rfl, rfl, by decide⟩ rfl xT_move (fun _ _ _ => trivial) 0 rfl rfl rfl hl.1 rfl (Nat.le_of_ble_eq_true rfl) dX10_hour_87 ⟨Nat.le_of_ble_eq_true rfl, Nat.le_of_ble_eq_true rfl⟩ (fun r_9 _ H locs hw hK1 hP hD hS => ?_)
            have hP : va_P D vwCl [(m_low, .inl (y_low, 100, .inl ga)), (m_high, .inl (y_high, 100, .inl gb)), (m_crack, .inl (y_crack, 100, .inl gc)), (m_rule, .inl (y_rule, 8, .inl f_rule)), (m_breaks, .inl (y_breaks, 100, .inl f_breaks)), (h0, .inr (9, [.ref m_tape, .int 0, .int 0, .ref m_rule, .ref m_rules, .int 0, .ref m_stair, .int 0, .int 0, .int (((-1))), .int 5, .int 5, .ref m_low, .ref m_high, .ref m_crack, .int 0, .ref m_weight, .ref m_fire, .ref m_crowd, .ref m_state, .ref m_where, .int 1, .int 0, .int 0, .ref m_words, .int 0, .int 0, .int 0, .int 0, .int 0, .int 0, .ref m_told, .ref m_breaks, .ref m_row, .ref m_tried, .ref m_steps, .ref m_paths]))] H := hP
            have hD : va_D A [(m_low, .inl (y_low, 100, .inl ga)), (m_high, .inl (y_high, 100, .inl gb)), (m_crack, .inl (y_crack, 100, .inl gc)), (m_rule, .inl (y_rule, 8, .inl f_rule)), (m_breaks, .inl (y_breaks, 100, .inl f_breaks)), (h0, .inr (9, [.ref m_tape, .int 0, .int 0, .ref m_rule, .ref m_rules, .int 0, .ref m_stair, .int 0, .int 0, .int (((-1))), .int 5, .int 5, .ref m_low, .ref m_high, .ref m_crack, .int 0, .ref m_weight, .ref m_fire, .ref m_crowd, .ref m_state, .ref m_where, .int 1, .int 0, .int 0, .ref m_words, .int 0, .int 0, .int 0, .int 0, .int 0, .int 0, .ref m_told, .ref m_breaks, .ref m_row, .ref m_tried, .ref m_steps, .ref m_paths]))] := hD
            have hw_10 : r_9 = 0 := hw
            obtain rfl : r_9 = 0 := hw_10
            refine lv_isub hx hb dX10_hour_90 ?_
            refine lv_topi (fun z_11 ez_11 => ?_)
            refine lv_istore_n (lv' := [(3, .int z_11), (0, .ref h0), (1, .int co), (2, .int (nI i))]) hx hb dX10_hour_91 rfl hl (by decide) rfl (fun ls hl => ?_)
            refine lv_aload_n hx hb dX10_hour_92 rfl (lv_at hl 1 rfl) ?_
            refine va_get (D := D) (ci := 9) (v := .ref m_low) (C := RX10) (T := TX10) (N := 37) hx hb hts inG_X10 hown hK hP 5 rfl rfl 12 (by decide) (hts _ kw_4_207) (fun _ h9 => h9) rfl dX10_hour_93 ?_
            refine lv_iload_n hx hb dX10_hour_96 rfl (lv_at hl 3 rfl) ?_
            refine lv_aload_n hx hb dX10_hour_97 rfl (lv_at hl 1 rfl) ?_
            refine va_get (D := D) (ci := 9) (v := .ref m_low) (C := RX10) (T := TX10) (N := 37) hx hb hts inG_X10 hown hK hP 5 rfl rfl 12 (by decide) (hts _ kw_4_207) (fun _ h9 => h9) rfl dX10_hour_98 ?_
            refine lv_iload_n hx hb dX10_hour_101 rfl (lv_at hl 3 rfl) ?_
            refine m_iald hx hb hK hP 0 0 rfl rfl i rfl (by omega) (by decide) dX10_hour_102 ?_
            refine lv_topi (fun v_12 ev_12 => ?_)
            refine lv_iload_n hx hb dX10_hour_103 rfl (lv_at hl 0 rfl) ?_
            refine lv_iadd hx hb dX10_hour_104 ?_
            refine lv_topi (fun z_13 ez_13 => ?_)
            refine mc_Si (rest := [.int (nI i), .ref m_low]) (wr := [(m_low, .inl (y_low, 100, .inl ga)), (m_high, .inl (y_high, 100, .inl gb)), (m_crack, .inl (y_crack, 100, .inl gc)), (m_rule, .inl (y_rule, 8, .inl f_rule)), (m_breaks, .inl (y_breaks, 100, .inl f_breaks)), (h0, .inr (9, [.ref m_tape, .int 0, .int 0, .ref m_rule, .ref m_rules, .int 0, .ref m_stair, .int 0, .int 0, .int (((-1))), .int 5, .int 5, .ref m_low, .ref m_high, .ref m_crack, .int 0, .ref m_weight, .ref m_fire, .ref m_crowd, .ref m_state, .ref m_where, .int 1, .int 0, .int 0, .ref m_words, .int 0, .int 0, .int 0, .int 0, .int 0, .int 0, .ref m_told, .ref m_breaks, .ref m_row, .ref m_tried, .ref m_steps, .ref m_paths]))]) F hK hP hD hS hA (m_within l D z_13 ) ⟨gk_X10_189.1, gk_X10_189.2, Nat.le_of_ble_eq_true rfl, Nat.le_of_ble_eq_true rfl⟩ [] [0, 1, 2, 3, 4, 5] [] ⟨rfl, rfl, rfl, rfl, by decide⟩ rfl xT_move (fun _ _ _ => trivial) rfl hl.1 rfl (Nat.le_of_ble_eq_true rfl) dX10_hour_105 ⟨Nat.le_of_ble_eq_true rfl, Nat.le_of_ble_eq_true rfl⟩ (fun r_14 _ H locs hw hK1 hP hD hS => ?_)
            have hP : va_P D vwCl [(m_low, .inl (y_low, 100, .inl ga)), (m_high, .inl (y_high, 100, .inl gb)), (m_crack, .inl (y_crack, 100, .inl gc)), (m_rule, .inl (y_rule, 8, .inl f_rule)), (m_breaks, .inl (y_breaks, 100, .inl f_breaks)), (h0, .inr (9, [.ref m_tape, .int 0, .int 0, .ref m_rule, .ref m_rules, .int 0, .ref m_stair, .int 0, .int 0, .int (((-1))), .int 5, .int 5, .ref m_low, .ref m_high, .ref m_crack, .int 0, .ref m_weight, .ref m_fire, .ref m_crowd, .ref m_state, .ref m_where, .int 1, .int 0, .int 0, .ref m_words, .int 0, .int 0, .int 0, .int 0, .int 0, .int 0, .ref m_told, .ref m_breaks, .ref m_row, .ref m_tried, .ref m_steps, .ref m_paths]))] H := hP
            have hD : va_D A [(m_low, .inl (y_low, 100, .inl ga)), (m_high, .inl (y_high, 100, .inl gb)), (m_crack, .inl (y_crack, 100, .inl gc)), (m_rule, .inl (y_rule, 8, .inl f_rule)), (m_breaks, .inl (y_breaks, 100, .inl f_breaks)), (h0, .inr (9, [.ref m_tape, .int 0, .int 0, .ref m_rule, .ref m_rules, .int 0, .ref m_stair, .int 0, .int 0, .int (((-1))), .int 5, .int 5, .ref m_low, .ref m_high, .ref m_crack, .int 0, .ref m_weight, .ref m_fire, .ref m_crowd, .ref m_state, .ref m_where, .int 1, .int 0, .int 0, .ref m_words, .int 0, .int 0, .int 0, .int 0, .int 0, .int 0, .ref m_told, .ref m_breaks, .ref m_row, .ref m_tried, .ref m_steps, .ref m_paths]))] := hD
            have hw_15 : r_14 = r_14 := hw
            refine m_iast hx hb hK hP hD hS 0 0 rfl rfl i rfl (by omega) (by decide) dX10_hour_108 (fun g_16 H locs eg_16 hP hD hS => ?_)
            have hP : va_P D vwCl [(m_low, .inl (y_low, 100, .inl g_16)), (m_high, .inl (y_high, 100, .inl gb)), (m_crack, .inl (y_crack, 100, .inl gc)), (m_rule, .inl (y_rule, 8, .inl f_rule)), (m_breaks, .inl (y_breaks, 100, .inl f_breaks)), (h0, .inr (9, [.ref m_tape, .int 0, .int 0, .ref m_rule, .ref m_rules, .int 0, .ref m_stair, .int 0, .int 0, .int (((-1))), .int 5, .int 5, .ref m_low, .ref m_high, .ref m_crack, .int 0, .ref m_weight, .ref m_fire, .ref m_crowd, .ref m_state, .ref m_where, .int 1, .int 0, .int 0, .ref m_words, .int 0, .int 0, .int 0, .int 0, .int 0, .int 0, .ref m_told, .ref m_breaks, .ref m_row, .ref m_tried, .ref m_steps, .ref m_paths]))] H := hP
            have hD : va_D A [(m_low, .inl (y_low, 100, .inl g_16)), (m_high, .inl (y_high, 100, .inl gb)), (m_crack, .inl (y_crack, 100, .inl gc)), (m_rule, .inl (y_rule, 8, .inl f_rule)), (m_breaks, .inl (y_breaks, 100, .inl f_breaks)), (h0, .inr (9, [.ref m_tape, .int 0, .int 0, .ref m_rule, .ref m_rules, .int 0, .ref m_stair, .int 0, .int 0, .int (((-1))), .int 5, .int 5, .ref m_low, .ref m_high, .ref m_crack, .int 0, .ref m_weight, .ref m_fire, .ref m_crowd, .ref m_state, .ref m_where, .int 1, .int 0, .int 0, .ref m_words, .int 0, .int 0, .int 0, .int 0, .int 0, .int 0, .ref m_told, .ref m_breaks, .ref m_row, .ref m_tried, .ref m_steps, .ref m_paths]))] := hD
            refine lv_aload_n hx hb dX10_hour_109 rfl (lv_at hl 1 rfl) ?_
            refine va_get (D := D) (ci := 9) (v := .ref m_high) (C := RX10) (T := TX10) (N := 37) hx hb hts inG_X10 hown hK hP 5 rfl rfl 13 (by decide) (hts _ kw_4_208) (fun _ h9 => h9) rfl dX10_hour_110 ?_
            refine lv_iload_n hx hb dX10_hour_113 rfl (lv_at hl 3 rfl) ?_
            refine lv_aload_n hx hb dX10_hour_114 rfl (lv_at hl 1 rfl) ?_
            refine va_get (D := D) (ci := 9) (v := .ref m_high) (C := RX10) (T := TX10) (N := 37) hx hb hts inG_X10 hown hK hP 5 rfl rfl 13 (by decide) (hts _ kw_4_208) (fun _ h9 => h9) rfl dX10_hour_115 ?_
            refine lv_iload_n hx hb dX10_hour_118 rfl (lv_at hl 3 rfl) ?_
            refine m_iald hx hb hK hP 1 1 rfl rfl i rfl (by omega) (by decide) dX10_hour_119 ?_
            refine lv_topi (fun v_17 ev_17 => ?_)
            refine lv_iload_n hx hb dX10_hour_120 rfl (lv_at hl 0 rfl) ?_
            refine lv_iadd hx hb dX10_hour_121 ?_
            refine lv_topi (fun z_18 ez_18 => ?_)
            refine mc_Si (rest := [.int (nI i), .ref m_high]) (wr := [(m_low, .inl (y_low, 100, .inl g_16)), (m_high, .inl (y_high, 100, .inl gb)), (m_crack, .inl (y_crack, 100, .inl gc)), (m_rule, .inl (y_rule, 8, .inl f_rule)), (m_breaks, .inl (y_breaks, 100, .inl f_breaks)), (h0, .inr (9, [.ref m_tape, .int 0, .int 0, .ref m_rule, .ref m_rules, .int 0, .ref m_stair, .int 0, .int 0, .int (((-1))), .int 5, .int 5, .ref m_low, .ref m_high, .ref m_crack, .int 0, .ref m_weight, .ref m_fire, .ref m_crowd, .ref m_state, .ref m_where, .int 1, .int 0, .int 0, .ref m_words, .int 0, .int 0, .int 0, .int 0, .int 0, .int 0, .ref m_told, .ref m_breaks, .ref m_row, .ref m_tried, .ref m_steps, .ref m_paths]))]) F hK hP hD hS hA (m_within l D z_18 ) ⟨gk_X10_189.1, gk_X10_189.2, Nat.le_of_ble_eq_true rfl, Nat.le_of_ble_eq_true rfl⟩ [] [0, 1, 2, 3, 4, 5] [] ⟨rfl, rfl, rfl, rfl, by decide⟩ rfl xT_move (fun _ _ _ => trivial) rfl hl.1 rfl (Nat.le_of_ble_eq_true rfl) dX10_hour_122 ⟨Nat.le_of_ble_eq_true rfl, Nat.le_of_ble_eq_true rfl⟩ (fun r_19 _ H locs hw hK1 hP hD hS => ?_)
            have hP : va_P D vwCl [(m_low, .inl (y_low, 100, .inl g_16)), (m_high, .inl (y_high, 100, .inl gb)), (m_crack, .inl (y_crack, 100, .inl gc)), (m_rule, .inl (y_rule, 8, .inl f_rule)), (m_breaks, .inl (y_breaks, 100, .inl f_breaks)), (h0, .inr (9, [.ref m_tape, .int 0, .int 0, .ref m_rule, .ref m_rules, .int 0, .ref m_stair, .int 0, .int 0, .int (((-1))), .int 5, .int 5, .ref m_low, .ref m_high, .ref m_crack, .int 0, .ref m_weight, .ref m_fire, .ref m_crowd, .ref m_state, .ref m_where, .int 1, .int 0, .int 0, .ref m_words, .int 0, .int 0, .int 0, .int 0, .int 0, .int 0, .ref m_told, .ref m_breaks, .ref m_row, .ref m_tried, .ref m_steps, .ref m_paths]))] H := hP
            have hD : va_D A [(m_low, .inl (y_low, 100, .inl g_16)), (m_high, .inl (y_high, 100, .inl gb)), (m_crack, .inl (y_crack, 100, .inl gc)), (m_rule, .inl (y_rule, 8, .inl f_rule)), (m_breaks, .inl (y_breaks, 100, .inl f_breaks)), (h0, .inr (9, [.ref m_tape, .int 0, .int 0, .ref m_rule, .ref m_rules, .int 0, .ref m_stair, .int 0, .int 0, .int (((-1))), .int 5, .int 5, .ref m_low, .ref m_high, .ref m_crack, .int 0, .ref m_weight, .ref m_fire, .ref m_crowd, .ref m_state, .ref m_where, .int 1, .int 0, .int 0, .ref m_words, .int 0, .int 0, .int 0, .int 0, .int 0, .int 0, .ref m_told, .ref m_breaks, .ref m_row, .ref m_tried, .ref m_steps, .ref m_paths]))] := hD
            have hw_20 : r_19 = r_19 := hw
            refine m_iast hx hb hK hP hD hS 1 1 rfl rfl i rfl (by omega) (by decide) dX10_hour_125 (fun g_21 H locs eg_21 hP hD hS => ?_)
            have hP : va_P D vwCl [(m_low, .inl (y_low, 100, .inl g_16)), (m_high, .inl (y_high, 100, .inl g_21)), (m_crack, .inl (y_crack, 100, .inl gc)), (m_rule, .inl (y_rule, 8, .inl f_rule)), (m_breaks, .inl (y_breaks, 100, .inl f_breaks)), (h0, .inr (9, [.ref m_tape, .int 0, .int 0, .ref m_rule, .ref m_rules, .int 0, .ref m_stair, .int 0, .int 0, .int (((-1))), .int 5, .int 5, .ref m_low, .ref m_high, .ref m_crack, .int 0, .ref m_weight, .ref m_fire, .ref m_crowd, .ref m_state, .ref m_where, .int 1, .int 0, .int 0, .ref m_words, .int 0, .int 0, .int 0, .int 0, .int 0, .int 0, .ref m_told, .ref m_breaks, .ref m_row, .ref m_tried, .ref m_steps, .ref m_paths]))] H := hP
            have hD : va_D A [(m_low, .inl (y_low, 100, .inl g_16)), (m_high, .inl (y_high, 100, .inl g_21)), (m_crack, .inl (y_crack, 100, .inl gc)), (m_rule, .inl (y_rule, 8, .inl f_rule)), (m_breaks, .inl (y_breaks, 100, .inl f_breaks)), (h0, .inr (9, [.ref m_tape, .int 0, .int 0, .ref m_rule, .ref m_rules, .int 0, .ref m_stair, .int 0, .int 0, .int (((-1))), .int 5, .int 5, .ref m_low, .ref m_high, .ref m_crack, .int 0, .ref m_weight, .ref m_fire, .ref m_crowd, .ref m_state, .ref m_where, .int 1, .int 0, .int 0, .ref m_words, .int 0, .int 0, .int 0, .int 0, .int 0, .int 0, .ref m_told, .ref m_breaks, .ref m_row, .ref m_tried, .ref m_steps, .ref m_paths]))] := hD
            refine lv_iinc (v := nI (i + 1)) (lv' := [(2, .int (nI (i + 1))), (3, .int z_11), (0, .ref h0), (1, .int co)]) hx hb dX10_hour_126 hl (k := 3) rfl (nI_add i 1) (by decide) rfl (fun ls hl => ?_)
            refine lv_goto (tgt := 31) hx hb dX10_hour_129 (by decide) ?_
            exact ih g_16 g_21 gc (i + 1) (by omega) (by omega) H locs (hP.sub [5, 0, 1, 2, 3, 4] rfl) (hD.sub [5, 0, 1, 2, 3, 4] (by decide) rfl) hS ls (lv_sub hl [2, 3, 0] rfl)
          · skip
            refine lv_aload_n hx hb dX10_hour_77 rfl (lv_at hl 0 rfl) ?_
            refine va_get (D := D) (ci := 9) (v := .ref m_crack) (C := RX10) (T := TX10) (N := 37) hx hb hts inG_X10 hown hK hP 0 rfl rfl 14 (by decide) (hts _ kw_4_209) (fun _ h9 => h9) rfl dX10_hour_78 ?_
            refine lv_iload_n hx hb dX10_hour_81 rfl (lv_at hl 2 rfl) ?_
            refine lv_iconst (v := 0) hx hb dX10_hour_82 (by decide) ?_
            refine m_zast hx hb hK hP hD hS 3 2 rfl rfl i rfl (by omega) (by decide) dX10_hour_83 (fun g_22 H locs eg_22 hP hD hS => ?_)
            have hP : va_P D vwCl [(h0, .inr (9, [.ref m_tape, .int 0, .int 0, .ref m_rule, .ref m_rules, .int 0, .ref m_stair, .int 0, .int 0, .int ((-1)), .int 5, .int 5, .ref m_low, .ref m_high, .ref m_crack, .int 0, .ref m_weight, .ref m_fire, .ref m_crowd, .ref m_state, .ref m_where, .int 1, .int 0, .int 0, .ref m_words, .int 0, .int 0, .int 0, .int 0, .int 0, .int 0, .ref m_told, .ref m_breaks, .ref m_row, .ref m_tried, .ref m_steps, .ref m_paths])), (m_low, .inl (y_low, 100, .inl ga)), (m_high, .inl (y_high, 100, .inl gb)), (m_crack, .inl (y_crack, 100, .inl g_22)), (m_rule, .inl (y_rule, 8, .inl f_rule)), (m_breaks, .inl (y_breaks, 100, .inl f_breaks))] H := hP
            have hD : va_D A [(h0, .inr (9, [.ref m_tape, .int 0, .int 0, .ref m_rule, .ref m_rules, .int 0, .ref m_stair, .int 0, .int 0, .int ((-1)), .int 5, .int 5, .ref m_low, .ref m_high, .ref m_crack, .int 0, .ref m_weight, .ref m_fire, .ref m_crowd, .ref m_state, .ref m_where, .int 1, .int 0, .int 0, .ref m_words, .int 0, .int 0, .int 0, .int 0, .int 0, .int 0, .ref m_told, .ref m_breaks, .ref m_row, .ref m_tried, .ref m_steps, .ref m_paths])), (m_low, .inl (y_low, 100, .inl ga)), (m_high, .inl (y_high, 100, .inl gb)), (m_crack, .inl (y_crack, 100, .inl g_22)), (m_rule, .inl (y_rule, 8, .inl f_rule)), (m_breaks, .inl (y_breaks, 100, .inl f_breaks))] := hD
            refine lv_iload_n hx hb dX10_hour_84 rfl (lv_at hl 1 rfl) ?_
            refine lv_aload_n hx hb dX10_hour_85 rfl (lv_at hl 0 rfl) ?_
            refine lv_iload_n hx hb dX10_hour_86 rfl (lv_at hl 2 rfl) ?_
            refine mc_Vi (rest := [.int co]) (wr := [(m_low, .inl (y_low, 100, .inl ga)), (m_high, .inl (y_high, 100, .inl gb)), (m_crack, .inl (y_crack, 100, .inl g_22)), (m_rule, .inl (y_rule, 8, .inl f_rule)), (m_breaks, .inl (y_breaks, 100, .inl f_breaks))]) F hK hP hD hS hA (m_fires0 l D h0 m_tape m_rule m_rules m_stair m_low m_high m_crack m_weight m_fire m_crowd m_state m_where m_words m_told m_breaks m_row m_tried m_steps m_paths 0 0 0 0 0 ((-1)) 5 5 1 0 0 0 0 0 0 0 0 (nI i) ) ⟨gk_X10_186.1, gk_X10_186.2, Nat.le_of_ble_eq_true rfl, Nat.le_of_ble_eq_true rfl⟩ [0] [1, 2, 3, 4, 5] [] ⟨rfl, rfl, rfl, rfl, by decide⟩ rfl xT_move (fun _ _ _ => trivial) 0 rfl rfl rfl hl.1 rfl (Nat.le_of_ble_eq_true rfl) dX10_hour_87 ⟨Nat.le_of_ble_eq_true rfl, Nat.le_of_ble_eq_true rfl⟩ (fun r_23 _ H locs hw hK1 hP hD hS => ?_)
            have hP : va_P D vwCl [(m_low, .inl (y_low, 100, .inl ga)), (m_high, .inl (y_high, 100, .inl gb)), (m_crack, .inl (y_crack, 100, .inl g_22)), (m_rule, .inl (y_rule, 8, .inl f_rule)), (m_breaks, .inl (y_breaks, 100, .inl f_breaks)), (h0, .inr (9, [.ref m_tape, .int 0, .int 0, .ref m_rule, .ref m_rules, .int 0, .ref m_stair, .int 0, .int 0, .int (((-1))), .int 5, .int 5, .ref m_low, .ref m_high, .ref m_crack, .int 0, .ref m_weight, .ref m_fire, .ref m_crowd, .ref m_state, .ref m_where, .int 1, .int 0, .int 0, .ref m_words, .int 0, .int 0, .int 0, .int 0, .int 0, .int 0, .ref m_told, .ref m_breaks, .ref m_row, .ref m_tried, .ref m_steps, .ref m_paths]))] H := hP
            have hD : va_D A [(m_low, .inl (y_low, 100, .inl ga)), (m_high, .inl (y_high, 100, .inl gb)), (m_crack, .inl (y_crack, 100, .inl g_22)), (m_rule, .inl (y_rule, 8, .inl f_rule)), (m_breaks, .inl (y_breaks, 100, .inl f_breaks)), (h0, .inr (9, [.ref m_tape, .int 0, .int 0, .ref m_rule, .ref m_rules, .int 0, .ref m_stair, .int 0, .int 0, .int (((-1))), .int 5, .int 5, .ref m_low, .ref m_high, .ref m_crack, .int 0, .ref m_weight, .ref m_fire, .ref m_crowd, .ref m_state, .ref m_where, .int 1, .int 0, .int 0, .ref m_words, .int 0, .int 0, .int 0, .int 0, .int 0, .int 0, .ref m_told, .ref m_breaks, .ref m_row, .ref m_tried, .ref m_steps, .ref m_paths]))] := hD
            have hw_24 : r_23 = 0 := hw
            obtain rfl : r_23 = 0 := hw_24
            refine lv_isub hx hb dX10_hour_90 ?_
            refine lv_topi (fun z_25 ez_25 => ?_)
            refine lv_istore_n (lv' := [(3, .int z_25), (0, .ref h0), (1, .int co), (2, .int (nI i))]) hx hb dX10_hour_91 rfl hl (by decide) rfl (fun ls hl => ?_)
            refine lv_aload_n hx hb dX10_hour_92 rfl (lv_at hl 1 rfl) ?_
            refine va_get (D := D) (ci := 9) (v := .ref m_low) (C := RX10) (T := TX10) (N := 37) hx hb hts inG_X10 hown hK hP 5 rfl rfl 12 (by decide) (hts _ kw_4_207) (fun _ h9 => h9) rfl dX10_hour_93 ?_
            refine lv_iload_n hx hb dX10_hour_96 rfl (lv_at hl 3 rfl) ?_
            refine lv_aload_n hx hb dX10_hour_97 rfl (lv_at hl 1 rfl) ?_
            refine va_get (D := D) (ci := 9) (v := .ref m_low) (C := RX10) (T := TX10) (N := 37) hx hb hts inG_X10 hown hK hP 5 rfl rfl 12 (by decide) (hts _ kw_4_207) (fun _ h9 => h9) rfl dX10_hour_98 ?_
            refine lv_iload_n hx hb dX10_hour_101 rfl (lv_at hl 3 rfl) ?_
            refine m_iald hx hb hK hP 0 0 rfl rfl i rfl (by omega) (by decide) dX10_hour_102 ?_
            refine lv_topi (fun v_26 ev_26 => ?_)
            refine lv_iload_n hx hb dX10_hour_103 rfl (lv_at hl 0 rfl) ?_
            refine lv_iadd hx hb dX10_hour_104 ?_
            refine lv_topi (fun z_27 ez_27 => ?_)
            refine mc_Si (rest := [.int (nI i), .ref m_low]) (wr := [(m_low, .inl (y_low, 100, .inl ga)), (m_high, .inl (y_high, 100, .inl gb)), (m_crack, .inl (y_crack, 100, .inl g_22)), (m_rule, .inl (y_rule, 8, .inl f_rule)), (m_breaks, .inl (y_breaks, 100, .inl f_breaks)), (h0, .inr (9, [.ref m_tape, .int 0, .int 0, .ref m_rule, .ref m_rules, .int 0, .ref m_stair, .int 0, .int 0, .int (((-1))), .int 5, .int 5, .ref m_low, .ref m_high, .ref m_crack, .int 0, .ref m_weight, .ref m_fire, .ref m_crowd, .ref m_state, .ref m_where, .int 1, .int 0, .int 0, .ref m_words, .int 0, .int 0, .int 0, .int 0, .int 0, .int 0, .ref m_told, .ref m_breaks, .ref m_row, .ref m_tried, .ref m_steps, .ref m_paths]))]) F hK hP hD hS hA (m_within l D z_27 ) ⟨gk_X10_189.1, gk_X10_189.2, Nat.le_of_ble_eq_true rfl, Nat.le_of_ble_eq_true rfl⟩ [] [0, 1, 2, 3, 4, 5] [] ⟨rfl, rfl, rfl, rfl, by decide⟩ rfl xT_move (fun _ _ _ => trivial) rfl hl.1 rfl (Nat.le_of_ble_eq_true rfl) dX10_hour_105 ⟨Nat.le_of_ble_eq_true rfl, Nat.le_of_ble_eq_true rfl⟩ (fun r_28 _ H locs hw hK1 hP hD hS => ?_)
            have hP : va_P D vwCl [(m_low, .inl (y_low, 100, .inl ga)), (m_high, .inl (y_high, 100, .inl gb)), (m_crack, .inl (y_crack, 100, .inl g_22)), (m_rule, .inl (y_rule, 8, .inl f_rule)), (m_breaks, .inl (y_breaks, 100, .inl f_breaks)), (h0, .inr (9, [.ref m_tape, .int 0, .int 0, .ref m_rule, .ref m_rules, .int 0, .ref m_stair, .int 0, .int 0, .int (((-1))), .int 5, .int 5, .ref m_low, .ref m_high, .ref m_crack, .int 0, .ref m_weight, .ref m_fire, .ref m_crowd, .ref m_state, .ref m_where, .int 1, .int 0, .int 0, .ref m_words, .int 0, .int 0, .int 0, .int 0, .int 0, .int 0, .ref m_told, .ref m_breaks, .ref m_row, .ref m_tried, .ref m_steps, .ref m_paths]))] H := hP
            have hD : va_D A [(m_low, .inl (y_low, 100, .inl ga)), (m_high, .inl (y_high, 100, .inl gb)), (m_crack, .inl (y_crack, 100, .inl g_22)), (m_rule, .inl (y_rule, 8, .inl f_rule)), (m_breaks, .inl (y_breaks, 100, .inl f_breaks)), (h0, .inr (9, [.ref m_tape, .int 0, .int 0, .ref m_rule, .ref m_rules, .int 0, .ref m_stair, .int 0, .int 0, .int (((-1))), .int 5, .int 5, .ref m_low, .ref m_high, .ref m_crack, .int 0, .ref m_weight, .ref m_fire, .ref m_crowd, .ref m_state, .ref m_where, .int 1, .int 0, .int 0, .ref m_words, .int 0, .int 0, .int 0, .int 0, .int 0, .int 0, .ref m_told, .ref m_breaks, .ref m_row, .ref m_tried, .ref m_steps, .ref m_paths]))] := hD
            have hw_29 : r_28 = r_28 := hw
            refine m_iast hx hb hK hP hD hS 0 0 rfl rfl i rfl (by omega) (by decide) dX10_hour_108 (fun g_30 H locs eg_30 hP hD hS => ?_)
            have hP : va_P D vwCl [(m_low, .inl (y_low, 100, .inl g_30)), (m_high, .inl (y_high, 100, .inl gb)), (m_crack, .inl (y_crack, 100, .inl g_22)), (m_rule, .inl (y_rule, 8, .inl f_rule)), (m_breaks, .inl (y_breaks, 100, .inl f_breaks)), (h0, .inr (9, [.ref m_tape, .int 0, .int 0, .ref m_rule, .ref m_rules, .int 0, .ref m_stair, .int 0, .int 0, .int (((-1))), .int 5, .int 5, .ref m_low, .ref m_high, .ref m_crack, .int 0, .ref m_weight, .ref m_fire, .ref m_crowd, .ref m_state, .ref m_where, .int 1, .int 0, .int 0, .ref m_words, .int 0, .int 0, .int 0, .int 0, .int 0, .int 0, .ref m_told, .ref m_breaks, .ref m_row, .ref m_tried, .ref m_steps, .ref m_paths]))] H := hP
            have hD : va_D A [(m_low, .inl (y_low, 100, .inl g_30)), (m_high, .inl (y_high, 100, .inl gb)), (m_crack, .inl (y_crack, 100, .inl g_22)), (m_rule, .inl (y_rule, 8, .inl f_rule)), (m_breaks, .inl (y_breaks, 100, .inl f_breaks)), (h0, .inr (9, [.ref m_tape, .int 0, .int 0, .ref m_rule, .ref m_rules, .int 0, .ref m_stair, .int 0, .int 0, .int (((-1))), .int 5, .int 5, .ref m_low, .ref m_high, .ref m_crack, .int 0, .ref m_weight, .ref m_fire, .ref m_crowd, .ref m_state, .ref m_where, .int 1, .int 0, .int 0, .ref m_words, .int 0, .int 0, .int 0, .int 0, .int 0, .int 0, .ref m_told, .ref m_breaks, .ref m_row, .ref m_tried, .ref m_steps, .ref m_paths]))] := hD
            refine lv_aload_n hx hb dX10_hour_109 rfl (lv_at hl 1 rfl) ?_
            refine va_get (D := D) (ci := 9) (v := .ref m_high) (C := RX10) (T := TX10) (N := 37) hx hb hts inG_X10 hown hK hP 5 rfl rfl 13 (by decide) (hts _ kw_4_208) (fun _ h9 => h9) rfl dX10_hour_110 ?_
            refine lv_iload_n hx hb dX10_hour_113 rfl (lv_at hl 3 rfl) ?_
            refine lv_aload_n hx hb dX10_hour_114 rfl (lv_at hl 1 rfl) ?_
            refine va_get (D := D) (ci := 9) (v := .ref m_high) (C := RX10) (T := TX10) (N := 37) hx hb hts inG_X10 hown hK hP 5 rfl rfl 13 (by decide) (hts _ kw_4_208) (fun _ h9 => h9) rfl dX10_hour_115 ?_
            refine lv_iload_n hx hb dX10_hour_118 rfl (lv_at hl 3 rfl) ?_
            refine m_iald hx hb hK hP 1 1 rfl rfl i rfl (by omega) (by decide) dX10_hour_119 ?_
            refine lv_topi (fun v_31 ev_31 => ?_)
            refine lv_iload_n hx hb dX10_hour_120 rfl (lv_at hl 0 rfl) ?_
            refine lv_iadd hx hb dX10_hour_121 ?_
            refine lv_topi (fun z_32 ez_32 => ?_)
            refine mc_Si (rest := [.int (nI i), .ref m_high]) (wr := [(m_low, .inl (y_low, 100, .inl g_30)), (m_high, .inl (y_high, 100, .inl gb)), (m_crack, .inl (y_crack, 100, .inl g_22)), (m_rule, .inl (y_rule, 8, .inl f_rule)), (m_breaks, .inl (y_breaks, 100, .inl f_breaks)), (h0, .inr (9, [.ref m_tape, .int 0, .int 0, .ref m_rule, .ref m_rules, .int 0, .ref m_stair, .int 0, .int 0, .int (((-1))), .int 5, .int 5, .ref m_low, .ref m_high, .ref m_crack, .int 0, .ref m_weight, .ref m_fire, .ref m_crowd, .ref m_state, .ref m_where, .int 1, .int 0, .int 0, .ref m_words, .int 0, .int 0, .int 0, .int 0, .int 0, .int 0, .ref m_told, .ref m_breaks, .ref m_row, .ref m_tried, .ref m_steps, .ref m_paths]))]) F hK hP hD hS hA (m_within l D z_32 ) ⟨gk_X10_189.1, gk_X10_189.2, Nat.le_of_ble_eq_true rfl, Nat.le_of_ble_eq_true rfl⟩ [] [0, 1, 2, 3, 4, 5] [] ⟨rfl, rfl, rfl, rfl, by decide⟩ rfl xT_move (fun _ _ _ => trivial) rfl hl.1 rfl (Nat.le_of_ble_eq_true rfl) dX10_hour_122 ⟨Nat.le_of_ble_eq_true rfl, Nat.le_of_ble_eq_true rfl⟩ (fun r_33 _ H locs hw hK1 hP hD hS => ?_)
            have hP : va_P D vwCl [(m_low, .inl (y_low, 100, .inl g_30)), (m_high, .inl (y_high, 100, .inl gb)), (m_crack, .inl (y_crack, 100, .inl g_22)), (m_rule, .inl (y_rule, 8, .inl f_rule)), (m_breaks, .inl (y_breaks, 100, .inl f_breaks)), (h0, .inr (9, [.ref m_tape, .int 0, .int 0, .ref m_rule, .ref m_rules, .int 0, .ref m_stair, .int 0, .int 0, .int (((-1))), .int 5, .int 5, .ref m_low, .ref m_high, .ref m_crack, .int 0, .ref m_weight, .ref m_fire, .ref m_crowd, .ref m_state, .ref m_where, .int 1, .int 0, .int 0, .ref m_words, .int 0, .int 0, .int 0, .int 0, .int 0, .int 0, .ref m_told, .ref m_breaks, .ref m_row, .ref m_tried, .ref m_steps, .ref m_paths]))] H := hP
            have hD : va_D A [(m_low, .inl (y_low, 100, .inl g_30)), (m_high, .inl (y_high, 100, .inl gb)), (m_crack, .inl (y_crack, 100, .inl g_22)), (m_rule, .inl (y_rule, 8, .inl f_rule)), (m_breaks, .inl (y_breaks, 100, .inl f_breaks)), (h0, .inr (9, [.ref m_tape, .int 0, .int 0, .ref m_rule, .ref m_rules, .int 0, .ref m_stair, .int 0, .int 0, .int (((-1))), .int 5, .int 5, .ref m_low, .ref m_high, .ref m_crack, .int 0, .ref m_weight, .ref m_fire, .ref m_crowd, .ref m_state, .ref m_where, .int 1, .int 0, .int 0, .ref m_words, .int 0, .int 0, .int 0, .int 0, .int 0, .int 0, .ref m_told, .ref m_breaks, .ref m_row, .ref m_tried, .ref m_steps, .ref m_paths]))] := hD
            have hw_34 : r_33 = r_33 := hw
            refine m_iast hx hb hK hP hD hS 1 1 rfl rfl i rfl (by omega) (by decide) dX10_hour_125 (fun g_35 H locs eg_35 hP hD hS => ?_)
            have hP : va_P D vwCl [(m_low, .inl (y_low, 100, .inl g_30)), (m_high, .inl (y_high, 100, .inl g_35)), (m_crack, .inl (y_crack, 100, .inl g_22)), (m_rule, .inl (y_rule, 8, .inl f_rule)), (m_breaks, .inl (y_breaks, 100, .inl f_breaks)), (h0, .inr (9, [.ref m_tape, .int 0, .int 0, .ref m_rule, .ref m_rules, .int 0, .ref m_stair, .int 0, .int 0, .int (((-1))), .int 5, .int 5, .ref m_low, .ref m_high, .ref m_crack, .int 0, .ref m_weight, .ref m_fire, .ref m_crowd, .ref m_state, .ref m_where, .int 1, .int 0, .int 0, .ref m_words, .int 0, .int 0, .int 0, .int 0, .int 0, .int 0, .ref m_told, .ref m_breaks, .ref m_row, .ref m_tried, .ref m_steps, .ref m_paths]))] H := hP
            have hD : va_D A [(m_low, .inl (y_low, 100, .inl g_30)), (m_high, .inl (y_high, 100, .inl g_35)), (m_crack, .inl (y_crack, 100, .inl g_22)), (m_rule, .inl (y_rule, 8, .inl f_rule)), (m_breaks, .inl (y_breaks, 100, .inl f_breaks)), (h0, .inr (9, [.ref m_tape, .int 0, .int 0, .ref m_rule, .ref m_rules, .int 0, .ref m_stair, .int 0, .int 0, .int (((-1))), .int 5, .int 5, .ref m_low, .ref m_high, .ref m_crack, .int 0, .ref m_weight, .ref m_fire, .ref m_crowd, .ref m_state, .ref m_where, .int 1, .int 0, .int 0, .ref m_words, .int 0, .int 0, .int 0, .int 0, .int 0, .int 0, .ref m_told, .ref m_breaks, .ref m_row, .ref m_tried, .ref m_steps, .ref m_paths]))] := hD
            refine lv_iinc (v := nI (i + 1)) (lv' := [(2, .int (nI (i + 1))), (3, .int z_25), (0, .ref h0), (1, .int co)]) hx hb dX10_hour_126 hl (k := 3) rfl (nI_add i 1) (by decide) rfl (fun ls hl => ?_)
            refine lv_goto (tgt := 31) hx hb dX10_hour_129 (by decide) ?_
            exact ih g_30 g_35 g_22 (i + 1) (by omega) (by omega) H locs (hP.sub [5, 0, 1, 2, 3, 4] rfl) (hD.sub [5, 0, 1, 2, 3, 4] (by decide) rfl) hS ls (lv_sub hl [2, 3, 0] rfl)
        · skip
          have c_5n : 5 ≤ (i / 10) := nb_lt (by omega) (by omega) c_5
          refine lv_goto (tgt := 126) hx hb dX10_hour_59 (by decide) ?_
          refine lv_iinc (v := nI (i + 1)) (lv' := [(2, .int (nI (i + 1))), (0, .ref h0), (1, .int co)]) hx hb dX10_hour_126 hl (k := 2) rfl (nI_add i 1) (by decide) rfl (fun ls hl => ?_)
          refine lv_goto (tgt := 31) hx hb dX10_hour_129 (by decide) ?_
          exact ih ga gb gc (i + 1) (by omega) (by omega) H locs (hP.sub [0, 1, 2, 3, 4, 5] rfl) (hD.sub [0, 1, 2, 3, 4, 5] (by decide) rfl) hS ls (lv_sub hl [1, 2, 0] rfl)
theorem dX10_hour_145 : decode cX10_hour 145 = .ok (.iload 4, 2) := by decide +kernel
theorem dX10_hour_147 : decode cX10_hour 147 = .ok (.bipush 100, 2) := by decide +kernel
theorem dX10_hour_149 : decode cX10_hour 149 = .ok (.if_icmp .ge 100, 3) := by decide +kernel
theorem dX10_hour_152 : decode cX10_hour 152 = .ok (.aload_n 0, 1) := by decide +kernel
theorem dX10_hour_153 : decode cX10_hour 153 = .ok (.getfield 63, 3) := by decide +kernel
theorem dX10_hour_156 : decode cX10_hour 156 = .ok (.iload 4, 2) := by decide +kernel
theorem dX10_hour_158 : decode cX10_hour 158 = .ok (.iload 4, 2) := by decide +kernel
theorem dX10_hour_160 : decode cX10_hour 160 = .ok (.bipush 10, 2) := by decide +kernel
theorem dX10_hour_162 : decode cX10_hour 162 = .ok (.irem, 1) := by decide +kernel
theorem dX10_hour_163 : decode cX10_hour 163 = .ok (.aload_n 0, 1) := by decide +kernel
theorem dX10_hour_164 : decode cX10_hour 164 = .ok (.getfield 26, 3) := by decide +kernel
theorem dX10_hour_167 : decode cX10_hour 167 = .ok (.if_icmp .ge 54, 3) := by decide +kernel
theorem dX10_hour_221 : decode cX10_hour 221 = .ok (.iconst 0, 1) := by decide +kernel
theorem dX10_hour_222 : decode cX10_hour 222 = .ok (.bastore, 1) := by decide +kernel
theorem dX10_hour_223 : decode cX10_hour 223 = .ok (.iload_n 3, 1) := by decide +kernel
theorem dX10_hour_224 : decode cX10_hour 224 = .ok (.ifCond .ne 13, 3) := by decide +kernel
theorem dX10_hour_237 : decode cX10_hour 237 = .ok (.iconst 1, 1) := by decide +kernel
theorem dX10_hour_238 : decode cX10_hour 238 = .ok (.goto 4, 3) := by decide +kernel
theorem dX10_hour_242 : decode cX10_hour 242 = .ok (.istore_n 3, 1) := by decide +kernel
theorem dX10_hour_243 : decode cX10_hour 243 = .ok (.iinc 4 1, 3) := by decide +kernel
theorem dX10_hour_246 : decode cX10_hour 246 = .ok (.goto (-101), 3) := by decide +kernel
theorem dX10_hour_227 : decode cX10_hour 227 = .ok (.aload_n 0, 1) := by decide +kernel
theorem dX10_hour_228 : decode cX10_hour 228 = .ok (.getfield 63, 3) := by decide +kernel
theorem dX10_hour_231 : decode cX10_hour 231 = .ok (.iload 4, 2) := by decide +kernel
theorem dX10_hour_233 : decode cX10_hour 233 = .ok (.baload, 1) := by decide +kernel
theorem dX10_hour_234 : decode cX10_hour 234 = .ok (.ifCond .eq 7, 3) := by decide +kernel
theorem dX10_hour_241 : decode cX10_hour 241 = .ok (.iconst 0, 1) := by decide +kernel
theorem dX10_hour_170 : decode cX10_hour 170 = .ok (.iload 4, 2) := by decide +kernel
theorem dX10_hour_172 : decode cX10_hour 172 = .ok (.bipush 10, 2) := by decide +kernel
theorem dX10_hour_174 : decode cX10_hour 174 = .ok (.idiv, 1) := by decide +kernel
theorem dX10_hour_175 : decode cX10_hour 175 = .ok (.aload_n 0, 1) := by decide +kernel
theorem dX10_hour_176 : decode cX10_hour 176 = .ok (.getfield 29, 3) := by decide +kernel
theorem dX10_hour_179 : decode cX10_hour 179 = .ok (.if_icmp .ge 42, 3) := by decide +kernel
theorem dX10_hour_182 : decode cX10_hour 182 = .ok (.aload_n 0, 1) := by decide +kernel
theorem dX10_hour_183 : decode cX10_hour 183 = .ok (.getfield 38, 3) := by decide +kernel
theorem dX10_hour_186 : decode cX10_hour 186 = .ok (.iload 4, 2) := by decide +kernel
theorem dX10_hour_188 : decode cX10_hour 188 = .ok (.baload, 1) := by decide +kernel
theorem dX10_hour_189 : decode cX10_hour 189 = .ok (.ifCond .ne 32, 3) := by decide +kernel
theorem dX10_hour_192 : decode cX10_hour 192 = .ok (.aload_n 0, 1) := by decide +kernel
theorem dX10_hour_193 : decode cX10_hour 193 = .ok (.getfield 35, 3) := by decide +kernel
theorem dX10_hour_196 : decode cX10_hour 196 = .ok (.iload 4, 2) := by decide +kernel
theorem dX10_hour_198 : decode cX10_hour 198 = .ok (.iaload, 1) := by decide +kernel
theorem dX10_hour_199 : decode cX10_hour 199 = .ok (.ifCond .eq 18, 3) := by decide +kernel
theorem dX10_hour_217 : decode cX10_hour 217 = .ok (.iconst 1, 1) := by decide +kernel
theorem dX10_hour_218 : decode cX10_hour 218 = .ok (.goto 4, 3) := by decide +kernel
theorem dX10_hour_202 : decode cX10_hour 202 = .ok (.aload_n 0, 1) := by decide +kernel
theorem dX10_hour_203 : decode cX10_hour 203 = .ok (.iload 4, 2) := by decide +kernel
theorem dX10_hour_205 : decode cX10_hour 205 = .ok (.invokevirtual 165, 3) := by decide +kernel
theorem dX10_hour_208 : decode cX10_hour 208 = .ok (.aload_n 0, 1) := by decide +kernel
theorem dX10_hour_209 : decode cX10_hour 209 = .ok (.iload 4, 2) := by decide +kernel
theorem dX10_hour_211 : decode cX10_hour 211 = .ok (.invokevirtual 168, 3) := by decide +kernel
theorem dX10_hour_214 : decode cX10_hour 214 = .ok (.if_icmp .le 7, 3) := by decide +kernel
set_option maxHeartbeats 4000000 in
set_option maxRecDepth 100000 in
theorem lp_m_mark {p : Program} {l : Launch} {e : Env} {s : State} {m : MethodId} {args : Array Value} {below : List Frame} {meth : Method} {c : Code} {Q : State → Prop} {A : Nat → Prop} {D : va_G} (F : mFix p s m args c cX10_hour 6 RX10) (hA : ∀ q, s.heap.size ≤ q → A q) (h0 : Nat) (m_tape : Nat) (m_rule : Nat) (m_rules : Nat) (m_stair : Nat) (m_low : Nat) (m_high : Nat) (m_crack : Nat) (m_weight : Nat) (m_fire : Nat) (m_crowd : Nat) (m_state : Nat) (m_where : Nat) (m_words : Nat) (m_told : Nat) (m_breaks : Nat) (m_row : Nat) (m_tried : Nat) (m_steps : Nat) (m_paths : Nat) (y_low : ClassId) (y_high : ClassId) (y_crack : ClassId) (y_rule : ClassId) (y_breaks : ClassId) (f_rule : Nat → Int32) (ga : Nat → Int32) (gb : Nat → Int32) (gc : Nat → Int32) (hK : va_K D vwCl [(y_low, .int), (y_high, .int), (y_crack, .boolean), (y_rule, .int), (y_breaks, .boolean)] s)
    (kx_249 : ∀ (b : Nat → Int32) (mo : Int32), (moF gc b 100 mo) → ∀ (H : Heap) (locs : List Loc), va_P D vwCl [(h0, .inr (9, [.ref m_tape, .int 0, .int 0, .ref m_rule, .ref m_rules, .int 0, .ref m_stair, .int 0, .int 0, .int ((-1)), .int 5, .int 5, .ref m_low, .ref m_high, .ref m_crack, .int 0, .ref m_weight, .ref m_fire, .ref m_crowd, .ref m_state, .ref m_where, .int 1, .int 0, .int 0, .ref m_words, .int 0, .int 0, .int 0, .int 0, .int 0, .int 0, .ref m_told, .ref m_breaks, .ref m_row, .ref m_tried, .ref m_steps, .ref m_paths])), (m_low, .inl (y_low, 100, .inl ga)), (m_high, .inl (y_high, 100, .inl gb)), (m_crack, .inl (y_crack, 100, .inl gc)), (m_rule, .inl (y_rule, 8, .inl f_rule)), (m_breaks, .inl (y_breaks, 100, .inl b))] H → va_D A [(h0, .inr (9, [.ref m_tape, .int 0, .int 0, .ref m_rule, .ref m_rules, .int 0, .ref m_stair, .int 0, .int 0, .int ((-1)), .int 5, .int 5, .ref m_low, .ref m_high, .ref m_crack, .int 0, .ref m_weight, .ref m_fire, .ref m_crowd, .ref m_state, .ref m_where, .int 1, .int 0, .int 0, .ref m_words, .int 0, .int 0, .int 0, .int 0, .int 0, .int 0, .ref m_told, .ref m_breaks, .ref m_row, .ref m_tried, .ref m_steps, .ref m_paths])), (m_low, .inl (y_low, 100, .inl ga)), (m_high, .inl (y_high, 100, .inl gb)), (m_crack, .inl (y_crack, 100, .inl gc)), (m_rule, .inl (y_rule, 8, .inl f_rule)), (m_breaks, .inl (y_breaks, 100, .inl b))] → va_S A s.heap H locs → ∀ ls : Array Slot, lv_has ls 6 [(0, .ref h0), (2, .int 0), (3, .int mo)] → W p l e ({ frames := 2, cells := 0, slots := 0, locals := 45 }) s m args below meth c H locs 0 0 Q (F0 m 249 ls [])) :
    ∀ n : Nat, ∀ (b : Nat → Int32) (mo : Int32) (i : Nat), (i ≤ 100) → (moF gc b i mo) → (100 - i) < n → ∀ (H : Heap) (locs : List Loc), va_P D vwCl [(h0, .inr (9, [.ref m_tape, .int 0, .int 0, .ref m_rule, .ref m_rules, .int 0, .ref m_stair, .int 0, .int 0, .int ((-1)), .int 5, .int 5, .ref m_low, .ref m_high, .ref m_crack, .int 0, .ref m_weight, .ref m_fire, .ref m_crowd, .ref m_state, .ref m_where, .int 1, .int 0, .int 0, .ref m_words, .int 0, .int 0, .int 0, .int 0, .int 0, .int 0, .ref m_told, .ref m_breaks, .ref m_row, .ref m_tried, .ref m_steps, .ref m_paths])), (m_low, .inl (y_low, 100, .inl ga)), (m_high, .inl (y_high, 100, .inl gb)), (m_crack, .inl (y_crack, 100, .inl gc)), (m_rule, .inl (y_rule, 8, .inl f_rule)), (m_breaks, .inl (y_breaks, 100, .inl b))] H → va_D A [(h0, .inr (9, [.ref m_tape, .int 0, .int 0, .ref m_rule, .ref m_rules, .int 0, .ref m_stair, .int 0, .int 0, .int ((-1)), .int 5, .int 5, .ref m_low, .ref m_high, .ref m_crack, .int 0, .ref m_weight, .ref m_fire, .ref m_crowd, .ref m_state, .ref m_where, .int 1, .int 0, .int 0, .ref m_words, .int 0, .int 0, .int 0, .int 0, .int 0, .int 0, .ref m_told, .ref m_breaks, .ref m_row, .ref m_tried, .ref m_steps, .ref m_paths])), (m_low, .inl (y_low, 100, .inl ga)), (m_high, .inl (y_high, 100, .inl gb)), (m_crack, .inl (y_crack, 100, .inl gc)), (m_rule, .inl (y_rule, 8, .inl f_rule)), (m_breaks, .inl (y_breaks, 100, .inl b))] → va_S A s.heap H locs → ∀ ls : Array Slot, lv_has ls 6 [(0, .ref h0), (2, .int 0), (3, .int mo), (4, .int (nI i))] → W p l e ({ frames := 2, cells := 0, slots := 0, locals := 45 }) s m args below meth c H locs 0 0 Q (F0 m 145 ls []) := by
  intro n
  induction n with
  | zero => intro b mo i hi hm hn; exact absurd hn (Nat.not_lt_zero _)
  | succ n ih =>
    intro b mo i hi hm hn H locs hP hD hS ls hl
    obtain ⟨hx, hb, hml, hown, hts⟩ := id F
    refine lv_iload hx hb dX10_hour_145 (lv_at hl 3 rfl) ?_
    refine lv_bipush (v := 100) hx hb dX10_hour_147 (by decide) ?_
    refine lv_icmp_ge (tgt := 249) hx hb dX10_hour_149 (by decide) (fun c_1 => ?_) (fun c_1 => ?_)
    · skip
      have c_1n : 100 ≤ i := (nI_leI (by omega) (by omega)).mp c_1
      have c_1 := Int32.not_lt.mpr c_1
      exact kx_249 b mo ((show i = 100 by omega) ▸ hm) H locs (hP.sub [0, 1, 2, 3, 4, 5] rfl) (hD.sub [0, 1, 2, 3, 4, 5] (by decide) rfl) hS ls (lv_sub hl [0, 1, 2] rfl)
    · skip
      have c_1n : i < 100 := nb_le (by omega) (by omega) c_1
      have c_1 := Int32.not_le.mp c_1
      refine lv_aload_n hx hb dX10_hour_152 rfl (lv_at hl 0 rfl) ?_
      refine va_get (D := D) (ci := 9) (v := .ref m_breaks) (C := RX10) (T := TX10) (N := 37) hx hb hts inG_X10 hown hK hP 0 rfl rfl 32 (by decide) (hts _ kw_4_227) (fun _ h9 => h9) rfl dX10_hour_153 ?_
      refine lv_iload hx hb dX10_hour_156 (lv_at hl 3 rfl) ?_
      refine lv_iload hx hb dX10_hour_158 (lv_at hl 3 rfl) ?_
      refine lv_bipush (v := 10) hx hb dX10_hour_160 (by decide) ?_
      refine lv_irem hx hb dX10_hour_162 (by decide) ?_
      refine lv_topi (fun z_2 ez_2 => ?_)
      obtain rfl : z_2 = nI (i % 10) := ez_2.trans (pk_rem (a := i) (d := 10) (by omega) (by decide) (by decide))
      refine lv_aload_n hx hb dX10_hour_163 rfl (lv_at hl 0 rfl) ?_
      refine va_get (D := D) (ci := 9) (v := .int 5) (C := RX10) (T := TX10) (N := 37) hx hb hts inG_X10 hown hK hP 0 rfl rfl 10 (by decide) (hts _ kw_4_205) (fun _ h9 => h9) rfl dX10_hour_164 ?_
      refine lv_icmp_ge (tgt := 221) hx hb dX10_hour_167 (by decide) (fun c_3 => ?_) (fun c_3 => ?_)
      · skip
        have c_3n : 5 ≤ (i % 10) := (nI_leI (by omega) (by omega)).mp c_3
        have c_3 := Int32.not_lt.mpr c_3
        refine lv_iconst (v := 0) hx hb dX10_hour_221 (by decide) ?_
        refine m_zast hx hb hK hP hD hS 5 4 rfl rfl i rfl (by omega) (by decide) dX10_hour_222 (fun g_4 H locs eg_4 hP hD hS => ?_)
        have hP : va_P D vwCl [(h0, .inr (9, [.ref m_tape, .int 0, .int 0, .ref m_rule, .ref m_rules, .int 0, .ref m_stair, .int 0, .int 0, .int ((-1)), .int 5, .int 5, .ref m_low, .ref m_high, .ref m_crack, .int 0, .ref m_weight, .ref m_fire, .ref m_crowd, .ref m_state, .ref m_where, .int 1, .int 0, .int 0, .ref m_words, .int 0, .int 0, .int 0, .int 0, .int 0, .int 0, .ref m_told, .ref m_breaks, .ref m_row, .ref m_tried, .ref m_steps, .ref m_paths])), (m_low, .inl (y_low, 100, .inl ga)), (m_high, .inl (y_high, 100, .inl gb)), (m_crack, .inl (y_crack, 100, .inl gc)), (m_rule, .inl (y_rule, 8, .inl f_rule)), (m_breaks, .inl (y_breaks, 100, .inl g_4))] H := hP
        have hD : va_D A [(h0, .inr (9, [.ref m_tape, .int 0, .int 0, .ref m_rule, .ref m_rules, .int 0, .ref m_stair, .int 0, .int 0, .int ((-1)), .int 5, .int 5, .ref m_low, .ref m_high, .ref m_crack, .int 0, .ref m_weight, .ref m_fire, .ref m_crowd, .ref m_state, .ref m_where, .int 1, .int 0, .int 0, .ref m_words, .int 0, .int 0, .int 0, .int 0, .int 0, .int 0, .ref m_told, .ref m_breaks, .ref m_row, .ref m_tried, .ref m_steps, .ref m_paths])), (m_low, .inl (y_low, 100, .inl ga)), (m_high, .inl (y_high, 100, .inl gb)), (m_crack, .inl (y_crack, 100, .inl gc)), (m_rule, .inl (y_rule, 8, .inl f_rule)), (m_breaks, .inl (y_breaks, 100, .inl g_4))] := hD
        refine lv_iload_n hx hb dX10_hour_223 rfl (lv_at hl 2 rfl) ?_
        refine lv_if_ne (tgt := 237) hx hb dX10_hour_224 (by decide) (fun c_5 => ?_) (fun c_5 => ?_)
        · skip
          have hq_6 : moF gc b i 1 := by rcases hm with ⟨a, k⟩ | ⟨a, k⟩; exact absurd a c_5; exact Or.inr ⟨rfl, k⟩
          refine lv_iconst (v := 1) hx hb dX10_hour_237 (by decide) ?_
          refine lv_goto (tgt := 242) hx hb dX10_hour_238 (by decide) ?_
          refine lv_istore_n (lv' := [(3, .int 1), (0, .ref h0), (2, .int 0), (4, .int (nI i))]) hx hb dX10_hour_242 rfl hl (by decide) rfl (fun ls hl => ?_)
          refine lv_iinc (v := nI (i + 1)) (lv' := [(4, .int (nI (i + 1))), (3, .int 1), (0, .ref h0), (2, .int 0)]) hx hb dX10_hour_243 hl (k := 3) rfl (nI_add i 1) (by decide) rfl (fun ls hl => ?_)
          refine lv_goto (tgt := 145) hx hb dX10_hour_246 (by decide) ?_
          exact ih g_4 1 (i + 1) (by omega) (mo_s0 hq_6 eg_4) (by omega) H locs (hP.sub [0, 1, 2, 3, 4, 5] rfl) (hD.sub [0, 1, 2, 3, 4, 5] (by decide) rfl) hS ls (lv_sub hl [2, 3, 1, 0] rfl)
        · skip
          have hq_7 : moF gc b i 0 := by rw [← c_5]; exact hm
          refine lv_aload_n hx hb dX10_hour_227 rfl (lv_at hl 0 rfl) ?_
          refine va_get (D := D) (ci := 9) (v := .ref m_breaks) (C := RX10) (T := TX10) (N := 37) hx hb hts inG_X10 hown hK hP 0 rfl rfl 32 (by decide) (hts _ kw_4_227) (fun _ h9 => h9) rfl dX10_hour_228 ?_
          refine lv_iload hx hb dX10_hour_231 (lv_at hl 3 rfl) ?_
          refine m_zald hx hb hK hP 5 4 rfl rfl i rfl (by omega) (by decide) dX10_hour_233 ?_
          refine lv_topi (fun v_8 ev_8 => ?_)
          refine lv_if_eq (tgt := 241) hx hb dX10_hour_234 (by decide) (fun c_9 => ?_) (fun c_9 => ?_)
          · skip
            refine lv_iconst (v := 0) hx hb dX10_hour_241 (by decide) ?_
            refine lv_istore_n (lv' := [(3, .int 0), (0, .ref h0), (2, .int 0), (4, .int (nI i))]) hx hb dX10_hour_242 rfl hl (by decide) rfl (fun ls hl => ?_)
            refine lv_iinc (v := nI (i + 1)) (lv' := [(4, .int (nI (i + 1))), (3, .int 0), (0, .ref h0), (2, .int 0)]) hx hb dX10_hour_243 hl (k := 3) rfl (nI_add i 1) (by decide) rfl (fun ls hl => ?_)
            refine lv_goto (tgt := 145) hx hb dX10_hour_246 (by decide) ?_
            exact ih g_4 0 (i + 1) (by omega) (mo_s0 hq_7 eg_4) (by omega) H locs (hP.sub [0, 1, 2, 3, 4, 5] rfl) (hD.sub [0, 1, 2, 3, 4, 5] (by decide) rfl) hS ls (lv_sub hl [2, 3, 1, 0] rfl)
          · skip
            exact absurd (by rw [ev_8, eg_4, pk_us]; rfl) c_9
      · skip
        have c_3n : (i % 10) < 5 := nb_le (by omega) (by omega) c_3
        have c_3 := Int32.not_le.mp c_3
        refine lv_iload hx hb dX10_hour_170 (lv_at hl 3 rfl) ?_
        refine lv_bipush (v := 10) hx hb dX10_hour_172 (by decide) ?_
        refine lv_idiv hx hb dX10_hour_174 (by decide) ?_
        refine lv_topi (fun z_10 ez_10 => ?_)
        obtain rfl : z_10 = nI (i / 10) := ez_10.trans (pk_div (a := i) (d := 10) (by omega) (by decide) (by decide))
        refine lv_aload_n hx hb dX10_hour_175 rfl (lv_at hl 0 rfl) ?_
        refine va_get (D := D) (ci := 9) (v := .int 5) (C := RX10) (T := TX10) (N := 37) hx hb hts inG_X10 hown hK hP 0 rfl rfl 11 (by decide) (hts _ kw_4_206) (fun _ h9 => h9) rfl dX10_hour_176 ?_
        refine lv_icmp_ge (tgt := 221) hx hb dX10_hour_179 (by decide) (fun c_11 => ?_) (fun c_11 => ?_)
        · skip
          have c_11n : 5 ≤ (i / 10) := (nI_leI (by omega) (by omega)).mp c_11
          have c_11 := Int32.not_lt.mpr c_11
          refine lv_iconst (v := 0) hx hb dX10_hour_221 (by decide) ?_
          refine m_zast hx hb hK hP hD hS 5 4 rfl rfl i rfl (by omega) (by decide) dX10_hour_222 (fun g_12 H locs eg_12 hP hD hS => ?_)
          have hP : va_P D vwCl [(h0, .inr (9, [.ref m_tape, .int 0, .int 0, .ref m_rule, .ref m_rules, .int 0, .ref m_stair, .int 0, .int 0, .int ((-1)), .int 5, .int 5, .ref m_low, .ref m_high, .ref m_crack, .int 0, .ref m_weight, .ref m_fire, .ref m_crowd, .ref m_state, .ref m_where, .int 1, .int 0, .int 0, .ref m_words, .int 0, .int 0, .int 0, .int 0, .int 0, .int 0, .ref m_told, .ref m_breaks, .ref m_row, .ref m_tried, .ref m_steps, .ref m_paths])), (m_low, .inl (y_low, 100, .inl ga)), (m_high, .inl (y_high, 100, .inl gb)), (m_crack, .inl (y_crack, 100, .inl gc)), (m_rule, .inl (y_rule, 8, .inl f_rule)), (m_breaks, .inl (y_breaks, 100, .inl g_12))] H := hP
          have hD : va_D A [(h0, .inr (9, [.ref m_tape, .int 0, .int 0, .ref m_rule, .ref m_rules, .int 0, .ref m_stair, .int 0, .int 0, .int ((-1)), .int 5, .int 5, .ref m_low, .ref m_high, .ref m_crack, .int 0, .ref m_weight, .ref m_fire, .ref m_crowd, .ref m_state, .ref m_where, .int 1, .int 0, .int 0, .ref m_words, .int 0, .int 0, .int 0, .int 0, .int 0, .int 0, .ref m_told, .ref m_breaks, .ref m_row, .ref m_tried, .ref m_steps, .ref m_paths])), (m_low, .inl (y_low, 100, .inl ga)), (m_high, .inl (y_high, 100, .inl gb)), (m_crack, .inl (y_crack, 100, .inl gc)), (m_rule, .inl (y_rule, 8, .inl f_rule)), (m_breaks, .inl (y_breaks, 100, .inl g_12))] := hD
          refine lv_iload_n hx hb dX10_hour_223 rfl (lv_at hl 2 rfl) ?_
          refine lv_if_ne (tgt := 237) hx hb dX10_hour_224 (by decide) (fun c_13 => ?_) (fun c_13 => ?_)
          · skip
            have hq_14 : moF gc b i 1 := by rcases hm with ⟨a, k⟩ | ⟨a, k⟩; exact absurd a c_13; exact Or.inr ⟨rfl, k⟩
            refine lv_iconst (v := 1) hx hb dX10_hour_237 (by decide) ?_
            refine lv_goto (tgt := 242) hx hb dX10_hour_238 (by decide) ?_
            refine lv_istore_n (lv' := [(3, .int 1), (0, .ref h0), (2, .int 0), (4, .int (nI i))]) hx hb dX10_hour_242 rfl hl (by decide) rfl (fun ls hl => ?_)
            refine lv_iinc (v := nI (i + 1)) (lv' := [(4, .int (nI (i + 1))), (3, .int 1), (0, .ref h0), (2, .int 0)]) hx hb dX10_hour_243 hl (k := 3) rfl (nI_add i 1) (by decide) rfl (fun ls hl => ?_)
            refine lv_goto (tgt := 145) hx hb dX10_hour_246 (by decide) ?_
            exact ih g_12 1 (i + 1) (by omega) (mo_s0 hq_14 eg_12) (by omega) H locs (hP.sub [0, 1, 2, 3, 4, 5] rfl) (hD.sub [0, 1, 2, 3, 4, 5] (by decide) rfl) hS ls (lv_sub hl [2, 3, 1, 0] rfl)
          · skip
            have hq_15 : moF gc b i 0 := by rw [← c_13]; exact hm
            refine lv_aload_n hx hb dX10_hour_227 rfl (lv_at hl 0 rfl) ?_
            refine va_get (D := D) (ci := 9) (v := .ref m_breaks) (C := RX10) (T := TX10) (N := 37) hx hb hts inG_X10 hown hK hP 0 rfl rfl 32 (by decide) (hts _ kw_4_227) (fun _ h9 => h9) rfl dX10_hour_228 ?_
            refine lv_iload hx hb dX10_hour_231 (lv_at hl 3 rfl) ?_
            refine m_zald hx hb hK hP 5 4 rfl rfl i rfl (by omega) (by decide) dX10_hour_233 ?_
            refine lv_topi (fun v_16 ev_16 => ?_)
            refine lv_if_eq (tgt := 241) hx hb dX10_hour_234 (by decide) (fun c_17 => ?_) (fun c_17 => ?_)
            · skip
              refine lv_iconst (v := 0) hx hb dX10_hour_241 (by decide) ?_
              refine lv_istore_n (lv' := [(3, .int 0), (0, .ref h0), (2, .int 0), (4, .int (nI i))]) hx hb dX10_hour_242 rfl hl (by decide) rfl (fun ls hl => ?_)
              refine lv_iinc (v := nI (i + 1)) (lv' := [(4, .int (nI (i + 1))), (3, .int 0), (0, .ref h0), (2, .int 0)]) hx hb dX10_hour_243 hl (k := 3) rfl (nI_add i 1) (by decide) rfl (fun ls hl => ?_)
              refine lv_goto (tgt := 145) hx hb dX10_hour_246 (by decide) ?_
              exact ih g_12 0 (i + 1) (by omega) (mo_s0 hq_15 eg_12) (by omega) H locs (hP.sub [0, 1, 2, 3, 4, 5] rfl) (hD.sub [0, 1, 2, 3, 4, 5] (by decide) rfl) hS ls (lv_sub hl [2, 3, 1, 0] rfl)
            · skip
              exact absurd (by rw [ev_16, eg_12, pk_us]; rfl) c_17
        · skip
          have c_11n : (i / 10) < 5 := nb_le (by omega) (by omega) c_11
          have c_11 := Int32.not_le.mp c_11
          refine lv_aload_n hx hb dX10_hour_182 rfl (lv_at hl 0 rfl) ?_
          refine va_get (D := D) (ci := 9) (v := .ref m_crack) (C := RX10) (T := TX10) (N := 37) hx hb hts inG_X10 hown hK hP 0 rfl rfl 14 (by decide) (hts _ kw_4_209) (fun _ h9 => h9) rfl dX10_hour_183 ?_
          refine lv_iload hx hb dX10_hour_186 (lv_at hl 3 rfl) ?_
          refine m_zald hx hb hK hP 3 2 rfl rfl i rfl (by omega) (by decide) dX10_hour_188 ?_
          refine lv_topi (fun v_18 ev_18 => ?_)
          refine lv_if_ne (tgt := 221) hx hb dX10_hour_189 (by decide) (fun c_19 => ?_) (fun c_19 => ?_)
          · skip
            refine lv_iconst (v := 0) hx hb dX10_hour_221 (by decide) ?_
            refine m_zast hx hb hK hP hD hS 5 4 rfl rfl i rfl (by omega) (by decide) dX10_hour_222 (fun g_20 H locs eg_20 hP hD hS => ?_)
            have hP : va_P D vwCl [(h0, .inr (9, [.ref m_tape, .int 0, .int 0, .ref m_rule, .ref m_rules, .int 0, .ref m_stair, .int 0, .int 0, .int ((-1)), .int 5, .int 5, .ref m_low, .ref m_high, .ref m_crack, .int 0, .ref m_weight, .ref m_fire, .ref m_crowd, .ref m_state, .ref m_where, .int 1, .int 0, .int 0, .ref m_words, .int 0, .int 0, .int 0, .int 0, .int 0, .int 0, .ref m_told, .ref m_breaks, .ref m_row, .ref m_tried, .ref m_steps, .ref m_paths])), (m_low, .inl (y_low, 100, .inl ga)), (m_high, .inl (y_high, 100, .inl gb)), (m_crack, .inl (y_crack, 100, .inl gc)), (m_rule, .inl (y_rule, 8, .inl f_rule)), (m_breaks, .inl (y_breaks, 100, .inl g_20))] H := hP
            have hD : va_D A [(h0, .inr (9, [.ref m_tape, .int 0, .int 0, .ref m_rule, .ref m_rules, .int 0, .ref m_stair, .int 0, .int 0, .int ((-1)), .int 5, .int 5, .ref m_low, .ref m_high, .ref m_crack, .int 0, .ref m_weight, .ref m_fire, .ref m_crowd, .ref m_state, .ref m_where, .int 1, .int 0, .int 0, .ref m_words, .int 0, .int 0, .int 0, .int 0, .int 0, .int 0, .ref m_told, .ref m_breaks, .ref m_row, .ref m_tried, .ref m_steps, .ref m_paths])), (m_low, .inl (y_low, 100, .inl ga)), (m_high, .inl (y_high, 100, .inl gb)), (m_crack, .inl (y_crack, 100, .inl gc)), (m_rule, .inl (y_rule, 8, .inl f_rule)), (m_breaks, .inl (y_breaks, 100, .inl g_20))] := hD
            refine lv_iload_n hx hb dX10_hour_223 rfl (lv_at hl 2 rfl) ?_
            refine lv_if_ne (tgt := 237) hx hb dX10_hour_224 (by decide) (fun c_21 => ?_) (fun c_21 => ?_)
            · skip
              have hq_22 : moF gc b i 1 := by rcases hm with ⟨a, k⟩ | ⟨a, k⟩; exact absurd a c_21; exact Or.inr ⟨rfl, k⟩
              refine lv_iconst (v := 1) hx hb dX10_hour_237 (by decide) ?_
              refine lv_goto (tgt := 242) hx hb dX10_hour_238 (by decide) ?_
              refine lv_istore_n (lv' := [(3, .int 1), (0, .ref h0), (2, .int 0), (4, .int (nI i))]) hx hb dX10_hour_242 rfl hl (by decide) rfl (fun ls hl => ?_)
              refine lv_iinc (v := nI (i + 1)) (lv' := [(4, .int (nI (i + 1))), (3, .int 1), (0, .ref h0), (2, .int 0)]) hx hb dX10_hour_243 hl (k := 3) rfl (nI_add i 1) (by decide) rfl (fun ls hl => ?_)
              refine lv_goto (tgt := 145) hx hb dX10_hour_246 (by decide) ?_
              exact ih g_20 1 (i + 1) (by omega) (mo_s0 hq_22 eg_20) (by omega) H locs (hP.sub [0, 1, 2, 3, 4, 5] rfl) (hD.sub [0, 1, 2, 3, 4, 5] (by decide) rfl) hS ls (lv_sub hl [2, 3, 1, 0] rfl)
            · skip
              have hq_23 : moF gc b i 0 := by rw [← c_21]; exact hm
              refine lv_aload_n hx hb dX10_hour_227 rfl (lv_at hl 0 rfl) ?_
              refine va_get (D := D) (ci := 9) (v := .ref m_breaks) (C := RX10) (T := TX10) (N := 37) hx hb hts inG_X10 hown hK hP 0 rfl rfl 32 (by decide) (hts _ kw_4_227) (fun _ h9 => h9) rfl dX10_hour_228 ?_
              refine lv_iload hx hb dX10_hour_231 (lv_at hl 3 rfl) ?_
              refine m_zald hx hb hK hP 5 4 rfl rfl i rfl (by omega) (by decide) dX10_hour_233 ?_
              refine lv_topi (fun v_24 ev_24 => ?_)
              refine lv_if_eq (tgt := 241) hx hb dX10_hour_234 (by decide) (fun c_25 => ?_) (fun c_25 => ?_)
              · skip
                refine lv_iconst (v := 0) hx hb dX10_hour_241 (by decide) ?_
                refine lv_istore_n (lv' := [(3, .int 0), (0, .ref h0), (2, .int 0), (4, .int (nI i))]) hx hb dX10_hour_242 rfl hl (by decide) rfl (fun ls hl => ?_)
                refine lv_iinc (v := nI (i + 1)) (lv' := [(4, .int (nI (i + 1))), (3, .int 0), (0, .ref h0), (2, .int 0)]) hx hb dX10_hour_243 hl (k := 3) rfl (nI_add i 1) (by decide) rfl (fun ls hl => ?_)
                refine lv_goto (tgt := 145) hx hb dX10_hour_246 (by decide) ?_
                exact ih g_20 0 (i + 1) (by omega) (mo_s0 hq_23 eg_20) (by omega) H locs (hP.sub [0, 1, 2, 3, 4, 5] rfl) (hD.sub [0, 1, 2, 3, 4, 5] (by decide) rfl) hS ls (lv_sub hl [2, 3, 1, 0] rfl)
              · skip
                exact absurd (by rw [ev_24, eg_20, pk_us]; rfl) c_25
          · skip
            have hz_26 : gc i = 0 := by rw [← ev_18]; exact c_19
            refine lv_aload_n hx hb dX10_hour_192 rfl (lv_at hl 0 rfl) ?_
            refine va_get (D := D) (ci := 9) (v := .ref m_high) (C := RX10) (T := TX10) (N := 37) hx hb hts inG_X10 hown hK hP 0 rfl rfl 13 (by decide) (hts _ kw_4_208) (fun _ h9 => h9) rfl dX10_hour_193 ?_
            refine lv_iload hx hb dX10_hour_196 (lv_at hl 3 rfl) ?_
            refine m_iald hx hb hK hP 2 1 rfl rfl i rfl (by omega) (by decide) dX10_hour_198 ?_
            refine lv_topi (fun v_27 ev_27 => ?_)
            refine lv_if_eq (tgt := 217) hx hb dX10_hour_199 (by decide) (fun c_28 => ?_) (fun c_28 => ?_)
            · skip
              refine lv_iconst (v := 1) hx hb dX10_hour_217 (by decide) ?_
              refine lv_goto (tgt := 222) hx hb dX10_hour_218 (by decide) ?_
              refine m_zast hx hb hK hP hD hS 5 4 rfl rfl i rfl (by omega) (by decide) dX10_hour_222 (fun g_29 H locs eg_29 hP hD hS => ?_)
              have hP : va_P D vwCl [(h0, .inr (9, [.ref m_tape, .int 0, .int 0, .ref m_rule, .ref m_rules, .int 0, .ref m_stair, .int 0, .int 0, .int ((-1)), .int 5, .int 5, .ref m_low, .ref m_high, .ref m_crack, .int 0, .ref m_weight, .ref m_fire, .ref m_crowd, .ref m_state, .ref m_where, .int 1, .int 0, .int 0, .ref m_words, .int 0, .int 0, .int 0, .int 0, .int 0, .int 0, .ref m_told, .ref m_breaks, .ref m_row, .ref m_tried, .ref m_steps, .ref m_paths])), (m_low, .inl (y_low, 100, .inl ga)), (m_high, .inl (y_high, 100, .inl gb)), (m_crack, .inl (y_crack, 100, .inl gc)), (m_rule, .inl (y_rule, 8, .inl f_rule)), (m_breaks, .inl (y_breaks, 100, .inl g_29))] H := hP
              have hD : va_D A [(h0, .inr (9, [.ref m_tape, .int 0, .int 0, .ref m_rule, .ref m_rules, .int 0, .ref m_stair, .int 0, .int 0, .int ((-1)), .int 5, .int 5, .ref m_low, .ref m_high, .ref m_crack, .int 0, .ref m_weight, .ref m_fire, .ref m_crowd, .ref m_state, .ref m_where, .int 1, .int 0, .int 0, .ref m_words, .int 0, .int 0, .int 0, .int 0, .int 0, .int 0, .ref m_told, .ref m_breaks, .ref m_row, .ref m_tried, .ref m_steps, .ref m_paths])), (m_low, .inl (y_low, 100, .inl ga)), (m_high, .inl (y_high, 100, .inl gb)), (m_crack, .inl (y_crack, 100, .inl gc)), (m_rule, .inl (y_rule, 8, .inl f_rule)), (m_breaks, .inl (y_breaks, 100, .inl g_29))] := hD
              refine lv_iload_n hx hb dX10_hour_223 rfl (lv_at hl 2 rfl) ?_
              refine lv_if_ne (tgt := 237) hx hb dX10_hour_224 (by decide) (fun c_30 => ?_) (fun c_30 => ?_)
              · skip
                have hq_31 : moF gc b i 1 := by rcases hm with ⟨a, k⟩ | ⟨a, k⟩; exact absurd a c_30; exact Or.inr ⟨rfl, k⟩
                refine lv_iconst (v := 1) hx hb dX10_hour_237 (by decide) ?_
                refine lv_goto (tgt := 242) hx hb dX10_hour_238 (by decide) ?_
                refine lv_istore_n (lv' := [(3, .int 1), (0, .ref h0), (2, .int 0), (4, .int (nI i))]) hx hb dX10_hour_242 rfl hl (by decide) rfl (fun ls hl => ?_)
                refine lv_iinc (v := nI (i + 1)) (lv' := [(4, .int (nI (i + 1))), (3, .int 1), (0, .ref h0), (2, .int 0)]) hx hb dX10_hour_243 hl (k := 3) rfl (nI_add i 1) (by decide) rfl (fun ls hl => ?_)
                refine lv_goto (tgt := 145) hx hb dX10_hour_246 (by decide) ?_
                exact ih g_29 1 (i + 1) (by omega) (mo_s1 hz_26 eg_29) (by omega) H locs (hP.sub [0, 1, 2, 3, 4, 5] rfl) (hD.sub [0, 1, 2, 3, 4, 5] (by decide) rfl) hS ls (lv_sub hl [2, 3, 1, 0] rfl)
              · skip
                have hq_32 : moF gc b i 0 := by rw [← c_30]; exact hm
                refine lv_aload_n hx hb dX10_hour_227 rfl (lv_at hl 0 rfl) ?_
                refine va_get (D := D) (ci := 9) (v := .ref m_breaks) (C := RX10) (T := TX10) (N := 37) hx hb hts inG_X10 hown hK hP 0 rfl rfl 32 (by decide) (hts _ kw_4_227) (fun _ h9 => h9) rfl dX10_hour_228 ?_
                refine lv_iload hx hb dX10_hour_231 (lv_at hl 3 rfl) ?_
                refine m_zald hx hb hK hP 5 4 rfl rfl i rfl (by omega) (by decide) dX10_hour_233 ?_
                refine lv_topi (fun v_33 ev_33 => ?_)
                refine lv_if_eq (tgt := 241) hx hb dX10_hour_234 (by decide) (fun c_34 => ?_) (fun c_34 => ?_)
                · skip
                  exact absurd (c_34) (by rw [ev_33, eg_29, pk_us]; decide)
                · skip
                  refine lv_iconst (v := 1) hx hb dX10_hour_237 (by decide) ?_
                  refine lv_goto (tgt := 242) hx hb dX10_hour_238 (by decide) ?_
                  refine lv_istore_n (lv' := [(3, .int 1), (0, .ref h0), (2, .int 0), (4, .int (nI i))]) hx hb dX10_hour_242 rfl hl (by decide) rfl (fun ls hl => ?_)
                  refine lv_iinc (v := nI (i + 1)) (lv' := [(4, .int (nI (i + 1))), (3, .int 1), (0, .ref h0), (2, .int 0)]) hx hb dX10_hour_243 hl (k := 3) rfl (nI_add i 1) (by decide) rfl (fun ls hl => ?_)
                  refine lv_goto (tgt := 145) hx hb dX10_hour_246 (by decide) ?_
                  exact ih g_29 1 (i + 1) (by omega) (mo_s1 hz_26 eg_29) (by omega) H locs (hP.sub [0, 1, 2, 3, 4, 5] rfl) (hD.sub [0, 1, 2, 3, 4, 5] (by decide) rfl) hS ls (lv_sub hl [2, 3, 1, 0] rfl)
            · skip
              refine lv_aload_n hx hb dX10_hour_202 rfl (lv_at hl 0 rfl) ?_
              refine lv_iload hx hb dX10_hour_203 (lv_at hl 3 rfl) ?_
              refine mc_Vi (rest := [.int (nI i), .ref m_breaks]) (wr := [(m_low, .inl (y_low, 100, .inl ga)), (m_high, .inl (y_high, 100, .inl gb)), (m_crack, .inl (y_crack, 100, .inl gc)), (m_rule, .inl (y_rule, 8, .inl f_rule)), (m_breaks, .inl (y_breaks, 100, .inl b))]) F hK hP hD hS hA (m_strain0 l D h0 m_tape m_rule m_rules m_stair m_low m_high m_crack m_weight m_fire m_crowd m_state m_where m_words m_told m_breaks m_row m_tried m_steps m_paths 0 0 0 0 0 ((-1)) 5 5 1 0 0 0 0 0 0 0 0 (nI i) ) ⟨gk_X10_165.1, gk_X10_165.2, Nat.le_of_ble_eq_true rfl, Nat.le_of_ble_eq_true rfl⟩ [0] [1, 2, 3, 4, 5] [] ⟨rfl, rfl, rfl, rfl, by decide⟩ rfl xT_move (fun _ _ _ => trivial) 0 rfl rfl rfl hl.1 rfl (Nat.le_of_ble_eq_true rfl) dX10_hour_205 ⟨Nat.le_of_ble_eq_true rfl, Nat.le_of_ble_eq_true rfl⟩ (fun r_35 _ H locs hw hK1 hP hD hS => ?_)
              have hP : va_P D vwCl [(m_low, .inl (y_low, 100, .inl ga)), (m_high, .inl (y_high, 100, .inl gb)), (m_crack, .inl (y_crack, 100, .inl gc)), (m_rule, .inl (y_rule, 8, .inl f_rule)), (m_breaks, .inl (y_breaks, 100, .inl b)), (h0, .inr (9, [.ref m_tape, .int 0, .int 0, .ref m_rule, .ref m_rules, .int 0, .ref m_stair, .int 0, .int 0, .int (((-1))), .int 5, .int 5, .ref m_low, .ref m_high, .ref m_crack, .int 0, .ref m_weight, .ref m_fire, .ref m_crowd, .ref m_state, .ref m_where, .int 1, .int 0, .int 0, .ref m_words, .int 0, .int 0, .int 0, .int 0, .int 0, .int 0, .ref m_told, .ref m_breaks, .ref m_row, .ref m_tried, .ref m_steps, .ref m_paths]))] H := hP
              have hD : va_D A [(m_low, .inl (y_low, 100, .inl ga)), (m_high, .inl (y_high, 100, .inl gb)), (m_crack, .inl (y_crack, 100, .inl gc)), (m_rule, .inl (y_rule, 8, .inl f_rule)), (m_breaks, .inl (y_breaks, 100, .inl b)), (h0, .inr (9, [.ref m_tape, .int 0, .int 0, .ref m_rule, .ref m_rules, .int 0, .ref m_stair, .int 0, .int 0, .int (((-1))), .int 5, .int 5, .ref m_low, .ref m_high, .ref m_crack, .int 0, .ref m_weight, .ref m_fire, .ref m_crowd, .ref m_state, .ref m_where, .int 1, .int 0, .int 0, .ref m_words, .int 0, .int 0, .int 0, .int 0, .int 0, .int 0, .ref m_told, .ref m_breaks, .ref m_row, .ref m_tried, .ref m_steps, .ref m_paths]))] := hD
              have hw_36 : r_35 = 0 := hw
              obtain rfl : r_35 = 0 := hw_36
              refine lv_aload_n hx hb dX10_hour_208 rfl (lv_at hl 0 rfl) ?_
              refine lv_iload hx hb dX10_hour_209 (lv_at hl 3 rfl) ?_
              refine mc_Vi (rest := [.int 0, .int (nI i), .ref m_breaks]) (wr := [(m_high, .inl (y_high, 100, .inl gb)), (m_crack, .inl (y_crack, 100, .inl gc)), (m_breaks, .inl (y_breaks, 100, .inl b))]) F hK hP hD hS hA (m_bears l D h0 m_tape m_rule m_rules m_stair m_low m_high m_crack m_weight m_fire m_crowd m_state m_where m_words m_told m_breaks m_row m_tried m_steps m_paths y_low y_rule ga f_rule 0 0 0 0 0 (((-1))) 5 5 0 1 0 0 0 0 0 0 0 0 i (by omega)) ⟨gk_X10_168.1, gk_X10_168.2, Nat.le_of_ble_eq_true rfl, Nat.le_of_ble_eq_true rfl⟩ [5, 0, 3] [1, 2, 4] [0, 3] ⟨rfl, rfl, rfl, rfl, by decide⟩ rfl xT_move (fun _ _ _ => trivial) 5 rfl rfl rfl hl.1 rfl (Nat.le_of_ble_eq_true rfl) dX10_hour_211 ⟨Nat.le_of_ble_eq_true rfl, Nat.le_of_ble_eq_true rfl⟩ (fun r_37 _ H locs hw hK1 hP hD hS => ?_)
              have hP : va_P D vwCl [(m_high, .inl (y_high, 100, .inl gb)), (m_crack, .inl (y_crack, 100, .inl gc)), (m_breaks, .inl (y_breaks, 100, .inl b)), (h0, .inr (9, [.ref m_tape, .int 0, .int 0, .ref m_rule, .ref m_rules, .int 0, .ref m_stair, .int 0, .int 0, .int ((((-1)))), .int 5, .int 5, .ref m_low, .ref m_high, .ref m_crack, .int 0, .ref m_weight, .ref m_fire, .ref m_crowd, .ref m_state, .ref m_where, .int 1, .int 0, .int 0, .ref m_words, .int 0, .int 0, .int 0, .int 0, .int 0, .int 0, .ref m_told, .ref m_breaks, .ref m_row, .ref m_tried, .ref m_steps, .ref m_paths])), (m_low, .inl (y_low, 100, .inl ga)), (m_rule, .inl (y_rule, 8, .inl f_rule))] H := hP
              have hD : va_D A [(m_high, .inl (y_high, 100, .inl gb)), (m_crack, .inl (y_crack, 100, .inl gc)), (m_breaks, .inl (y_breaks, 100, .inl b)), (h0, .inr (9, [.ref m_tape, .int 0, .int 0, .ref m_rule, .ref m_rules, .int 0, .ref m_stair, .int 0, .int 0, .int ((((-1)))), .int 5, .int 5, .ref m_low, .ref m_high, .ref m_crack, .int 0, .ref m_weight, .ref m_fire, .ref m_crowd, .ref m_state, .ref m_where, .int 1, .int 0, .int 0, .ref m_words, .int 0, .int 0, .int 0, .int 0, .int 0, .int 0, .ref m_told, .ref m_breaks, .ref m_row, .ref m_tried, .ref m_steps, .ref m_paths])), (m_low, .inl (y_low, 100, .inl ga)), (m_rule, .inl (y_rule, 8, .inl f_rule))] := hD
              have hw_38 : r_37 = ga i * ga i * f_rule 0 / 100 := hw
              refine lv_icmp_le (tgt := 221) hx hb dX10_hour_214 (by decide) (fun c_39 => ?_) (fun c_39 => ?_)
              · skip
                have c_39 := Int32.not_lt.mpr c_39
                refine lv_iconst (v := 0) hx hb dX10_hour_221 (by decide) ?_
                refine m_zast hx hb hK hP hD hS 2 4 rfl rfl i rfl (by omega) (by decide) dX10_hour_222 (fun g_40 H locs eg_40 hP hD hS => ?_)
                have hP : va_P D vwCl [(m_high, .inl (y_high, 100, .inl gb)), (m_crack, .inl (y_crack, 100, .inl gc)), (m_breaks, .inl (y_breaks, 100, .inl g_40)), (h0, .inr (9, [.ref m_tape, .int 0, .int 0, .ref m_rule, .ref m_rules, .int 0, .ref m_stair, .int 0, .int 0, .int ((((-1)))), .int 5, .int 5, .ref m_low, .ref m_high, .ref m_crack, .int 0, .ref m_weight, .ref m_fire, .ref m_crowd, .ref m_state, .ref m_where, .int 1, .int 0, .int 0, .ref m_words, .int 0, .int 0, .int 0, .int 0, .int 0, .int 0, .ref m_told, .ref m_breaks, .ref m_row, .ref m_tried, .ref m_steps, .ref m_paths])), (m_low, .inl (y_low, 100, .inl ga)), (m_rule, .inl (y_rule, 8, .inl f_rule))] H := hP
                have hD : va_D A [(m_high, .inl (y_high, 100, .inl gb)), (m_crack, .inl (y_crack, 100, .inl gc)), (m_breaks, .inl (y_breaks, 100, .inl g_40)), (h0, .inr (9, [.ref m_tape, .int 0, .int 0, .ref m_rule, .ref m_rules, .int 0, .ref m_stair, .int 0, .int 0, .int ((((-1)))), .int 5, .int 5, .ref m_low, .ref m_high, .ref m_crack, .int 0, .ref m_weight, .ref m_fire, .ref m_crowd, .ref m_state, .ref m_where, .int 1, .int 0, .int 0, .ref m_words, .int 0, .int 0, .int 0, .int 0, .int 0, .int 0, .ref m_told, .ref m_breaks, .ref m_row, .ref m_tried, .ref m_steps, .ref m_paths])), (m_low, .inl (y_low, 100, .inl ga)), (m_rule, .inl (y_rule, 8, .inl f_rule))] := hD
                refine lv_iload_n hx hb dX10_hour_223 rfl (lv_at hl 2 rfl) ?_
                refine lv_if_ne (tgt := 237) hx hb dX10_hour_224 (by decide) (fun c_41 => ?_) (fun c_41 => ?_)
                · skip
                  have hq_42 : moF gc b i 1 := by rcases hm with ⟨a, k⟩ | ⟨a, k⟩; exact absurd a c_41; exact Or.inr ⟨rfl, k⟩
                  refine lv_iconst (v := 1) hx hb dX10_hour_237 (by decide) ?_
                  refine lv_goto (tgt := 242) hx hb dX10_hour_238 (by decide) ?_
                  refine lv_istore_n (lv' := [(3, .int 1), (0, .ref h0), (2, .int 0), (4, .int (nI i))]) hx hb dX10_hour_242 rfl hl (by decide) rfl (fun ls hl => ?_)
                  refine lv_iinc (v := nI (i + 1)) (lv' := [(4, .int (nI (i + 1))), (3, .int 1), (0, .ref h0), (2, .int 0)]) hx hb dX10_hour_243 hl (k := 3) rfl (nI_add i 1) (by decide) rfl (fun ls hl => ?_)
                  refine lv_goto (tgt := 145) hx hb dX10_hour_246 (by decide) ?_
                  exact ih g_40 1 (i + 1) (by omega) (mo_s0 hq_42 eg_40) (by omega) H locs (hP.sub [3, 4, 0, 1, 5, 2] rfl) (hD.sub [3, 4, 0, 1, 5, 2] (by decide) rfl) hS ls (lv_sub hl [2, 3, 1, 0] rfl)
                · skip
                  have hq_43 : moF gc b i 0 := by rw [← c_41]; exact hm
                  refine lv_aload_n hx hb dX10_hour_227 rfl (lv_at hl 0 rfl) ?_
                  refine va_get (D := D) (ci := 9) (v := .ref m_breaks) (C := RX10) (T := TX10) (N := 37) hx hb hts inG_X10 hown hK hP 3 rfl rfl 32 (by decide) (hts _ kw_4_227) (fun _ h9 => h9) rfl dX10_hour_228 ?_
                  refine lv_iload hx hb dX10_hour_231 (lv_at hl 3 rfl) ?_
                  refine m_zald hx hb hK hP 2 4 rfl rfl i rfl (by omega) (by decide) dX10_hour_233 ?_
                  refine lv_topi (fun v_44 ev_44 => ?_)
                  refine lv_if_eq (tgt := 241) hx hb dX10_hour_234 (by decide) (fun c_45 => ?_) (fun c_45 => ?_)
                  · skip
                    refine lv_iconst (v := 0) hx hb dX10_hour_241 (by decide) ?_
                    refine lv_istore_n (lv' := [(3, .int 0), (0, .ref h0), (2, .int 0), (4, .int (nI i))]) hx hb dX10_hour_242 rfl hl (by decide) rfl (fun ls hl => ?_)
                    refine lv_iinc (v := nI (i + 1)) (lv' := [(4, .int (nI (i + 1))), (3, .int 0), (0, .ref h0), (2, .int 0)]) hx hb dX10_hour_243 hl (k := 3) rfl (nI_add i 1) (by decide) rfl (fun ls hl => ?_)
                    refine lv_goto (tgt := 145) hx hb dX10_hour_246 (by decide) ?_
                    exact ih g_40 0 (i + 1) (by omega) (mo_s0 hq_43 eg_40) (by omega) H locs (hP.sub [3, 4, 0, 1, 5, 2] rfl) (hD.sub [3, 4, 0, 1, 5, 2] (by decide) rfl) hS ls (lv_sub hl [2, 3, 1, 0] rfl)
                  · skip
                    exact absurd (by rw [ev_44, eg_40, pk_us]; rfl) c_45
              · skip
                have c_39 := Int32.not_le.mp c_39
                refine lv_iconst (v := 1) hx hb dX10_hour_217 (by decide) ?_
                refine lv_goto (tgt := 222) hx hb dX10_hour_218 (by decide) ?_
                refine m_zast hx hb hK hP hD hS 2 4 rfl rfl i rfl (by omega) (by decide) dX10_hour_222 (fun g_46 H locs eg_46 hP hD hS => ?_)
                have hP : va_P D vwCl [(m_high, .inl (y_high, 100, .inl gb)), (m_crack, .inl (y_crack, 100, .inl gc)), (m_breaks, .inl (y_breaks, 100, .inl g_46)), (h0, .inr (9, [.ref m_tape, .int 0, .int 0, .ref m_rule, .ref m_rules, .int 0, .ref m_stair, .int 0, .int 0, .int ((((-1)))), .int 5, .int 5, .ref m_low, .ref m_high, .ref m_crack, .int 0, .ref m_weight, .ref m_fire, .ref m_crowd, .ref m_state, .ref m_where, .int 1, .int 0, .int 0, .ref m_words, .int 0, .int 0, .int 0, .int 0, .int 0, .int 0, .ref m_told, .ref m_breaks, .ref m_row, .ref m_tried, .ref m_steps, .ref m_paths])), (m_low, .inl (y_low, 100, .inl ga)), (m_rule, .inl (y_rule, 8, .inl f_rule))] H := hP
                have hD : va_D A [(m_high, .inl (y_high, 100, .inl gb)), (m_crack, .inl (y_crack, 100, .inl gc)), (m_breaks, .inl (y_breaks, 100, .inl g_46)), (h0, .inr (9, [.ref m_tape, .int 0, .int 0, .ref m_rule, .ref m_rules, .int 0, .ref m_stair, .int 0, .int 0, .int ((((-1)))), .int 5, .int 5, .ref m_low, .ref m_high, .ref m_crack, .int 0, .ref m_weight, .ref m_fire, .ref m_crowd, .ref m_state, .ref m_where, .int 1, .int 0, .int 0, .ref m_words, .int 0, .int 0, .int 0, .int 0, .int 0, .int 0, .ref m_told, .ref m_breaks, .ref m_row, .ref m_tried, .ref m_steps, .ref m_paths])), (m_low, .inl (y_low, 100, .inl ga)), (m_rule, .inl (y_rule, 8, .inl f_rule))] := hD
                refine lv_iload_n hx hb dX10_hour_223 rfl (lv_at hl 2 rfl) ?_
                refine lv_if_ne (tgt := 237) hx hb dX10_hour_224 (by decide) (fun c_47 => ?_) (fun c_47 => ?_)
                · skip
                  have hq_48 : moF gc b i 1 := by rcases hm with ⟨a, k⟩ | ⟨a, k⟩; exact absurd a c_47; exact Or.inr ⟨rfl, k⟩
                  refine lv_iconst (v := 1) hx hb dX10_hour_237 (by decide) ?_
                  refine lv_goto (tgt := 242) hx hb dX10_hour_238 (by decide) ?_
                  refine lv_istore_n (lv' := [(3, .int 1), (0, .ref h0), (2, .int 0), (4, .int (nI i))]) hx hb dX10_hour_242 rfl hl (by decide) rfl (fun ls hl => ?_)
                  refine lv_iinc (v := nI (i + 1)) (lv' := [(4, .int (nI (i + 1))), (3, .int 1), (0, .ref h0), (2, .int 0)]) hx hb dX10_hour_243 hl (k := 3) rfl (nI_add i 1) (by decide) rfl (fun ls hl => ?_)
                  refine lv_goto (tgt := 145) hx hb dX10_hour_246 (by decide) ?_
                  exact ih g_46 1 (i + 1) (by omega) (mo_s1 hz_26 eg_46) (by omega) H locs (hP.sub [3, 4, 0, 1, 5, 2] rfl) (hD.sub [3, 4, 0, 1, 5, 2] (by decide) rfl) hS ls (lv_sub hl [2, 3, 1, 0] rfl)
                · skip
                  have hq_49 : moF gc b i 0 := by rw [← c_47]; exact hm
                  refine lv_aload_n hx hb dX10_hour_227 rfl (lv_at hl 0 rfl) ?_
                  refine va_get (D := D) (ci := 9) (v := .ref m_breaks) (C := RX10) (T := TX10) (N := 37) hx hb hts inG_X10 hown hK hP 3 rfl rfl 32 (by decide) (hts _ kw_4_227) (fun _ h9 => h9) rfl dX10_hour_228 ?_
                  refine lv_iload hx hb dX10_hour_231 (lv_at hl 3 rfl) ?_
                  refine m_zald hx hb hK hP 2 4 rfl rfl i rfl (by omega) (by decide) dX10_hour_233 ?_
                  refine lv_topi (fun v_50 ev_50 => ?_)
                  refine lv_if_eq (tgt := 241) hx hb dX10_hour_234 (by decide) (fun c_51 => ?_) (fun c_51 => ?_)
                  · skip
                    exact absurd (c_51) (by rw [ev_50, eg_46, pk_us]; decide)
                  · skip
                    refine lv_iconst (v := 1) hx hb dX10_hour_237 (by decide) ?_
                    refine lv_goto (tgt := 242) hx hb dX10_hour_238 (by decide) ?_
                    refine lv_istore_n (lv' := [(3, .int 1), (0, .ref h0), (2, .int 0), (4, .int (nI i))]) hx hb dX10_hour_242 rfl hl (by decide) rfl (fun ls hl => ?_)
                    refine lv_iinc (v := nI (i + 1)) (lv' := [(4, .int (nI (i + 1))), (3, .int 1), (0, .ref h0), (2, .int 0)]) hx hb dX10_hour_243 hl (k := 3) rfl (nI_add i 1) (by decide) rfl (fun ls hl => ?_)
                    refine lv_goto (tgt := 145) hx hb dX10_hour_246 (by decide) ?_
                    exact ih g_46 1 (i + 1) (by omega) (mo_s1 hz_26 eg_46) (by omega) H locs (hP.sub [3, 4, 0, 1, 5, 2] rfl) (hD.sub [3, 4, 0, 1, 5, 2] (by decide) rfl) hS ls (lv_sub hl [2, 3, 1, 0] rfl)
theorem dX10_hour_252 : decode cX10_hour 252 = .ok (.iload 4, 2) := by decide +kernel
theorem dX10_hour_254 : decode cX10_hour 254 = .ok (.bipush 100, 2) := by decide +kernel
theorem dX10_hour_256 : decode cX10_hour 256 = .ok (.if_icmp .ge 57, 3) := by decide +kernel
theorem dX10_hour_259 : decode cX10_hour 259 = .ok (.aload_n 0, 1) := by decide +kernel
theorem dX10_hour_260 : decode cX10_hour 260 = .ok (.getfield 63, 3) := by decide +kernel
theorem dX10_hour_263 : decode cX10_hour 263 = .ok (.iload 4, 2) := by decide +kernel
theorem dX10_hour_265 : decode cX10_hour 265 = .ok (.baload, 1) := by decide +kernel
theorem dX10_hour_266 : decode cX10_hour 266 = .ok (.ifCond .ne 6, 3) := by decide +kernel
theorem dX10_hour_272 : decode cX10_hour 272 = .ok (.aload_n 0, 1) := by decide +kernel
theorem dX10_hour_273 : decode cX10_hour 273 = .ok (.getfield 38, 3) := by decide +kernel
theorem dX10_hour_276 : decode cX10_hour 276 = .ok (.iload 4, 2) := by decide +kernel
theorem dX10_hour_278 : decode cX10_hour 278 = .ok (.iconst 1, 1) := by decide +kernel
theorem dX10_hour_279 : decode cX10_hour 279 = .ok (.bastore, 1) := by decide +kernel
theorem dX10_hour_280 : decode cX10_hour 280 = .ok (.aload_n 0, 1) := by decide +kernel
theorem dX10_hour_281 : decode cX10_hour 281 = .ok (.iload 4, 2) := by decide +kernel
theorem dX10_hour_283 : decode cX10_hour 283 = .ok (.invokevirtual 177, 3) := by decide +kernel
theorem dX10_hour_286 : decode cX10_hour 286 = .ok (.istore 5, 2) := by decide +kernel
theorem dX10_hour_288 : decode cX10_hour 288 = .ok (.iload 5, 2) := by decide +kernel
theorem dX10_hour_290 : decode cX10_hour 290 = .ok (.ifCond .ge 6, 3) := by decide +kernel
theorem dX10_hour_293 : decode cX10_hour 293 = .ok (.goto 14, 3) := by decide +kernel
theorem dX10_hour_307 : decode cX10_hour 307 = .ok (.iinc 4 1, 3) := by decide +kernel
theorem dX10_hour_310 : decode cX10_hour 310 = .ok (.goto (-58), 3) := by decide +kernel
theorem dX10_hour_269 : decode cX10_hour 269 = .ok (.goto 38, 3) := by decide +kernel
set_option maxHeartbeats 4000000 in
set_option maxRecDepth 100000 in
theorem lp_m_crack {p : Program} {l : Launch} {e : Env} {s : State} {m : MethodId} {args : Array Value} {below : List Frame} {meth : Method} {c : Code} {Q : State → Prop} {A : Nat → Prop} {D : va_G} (F : mFix p s m args c cX10_hour 6 RX10) (hA : ∀ q, s.heap.size ≤ q → A q) (h0 : Nat) (m_tape : Nat) (m_rule : Nat) (m_rules : Nat) (m_stair : Nat) (m_low : Nat) (m_high : Nat) (m_crack : Nat) (m_weight : Nat) (m_fire : Nat) (m_crowd : Nat) (m_state : Nat) (m_where : Nat) (m_words : Nat) (m_told : Nat) (m_breaks : Nat) (m_row : Nat) (m_tried : Nat) (m_steps : Nat) (m_paths : Nat) (y_low : ClassId) (y_high : ClassId) (y_crack : ClassId) (y_rule : ClassId) (y_breaks : ClassId) (f_rule : Nat → Int32) (ga : Nat → Int32) (gb : Nat → Int32) (gc : Nat → Int32) (b : Nat → Int32) (mo : Int32) (hK : va_K D vwCl [(y_low, .int), (y_high, .int), (y_crack, .boolean), (y_rule, .int), (y_breaks, .boolean)] s)
    (kx_313 : ∀ (g : Nat → Int32), (∀ j, j < 100 → ¬ b j = 0 → ¬ g j = 0) → (∀ j, g j = 0 → gc j = 0) → ∀ (H : Heap) (locs : List Loc), va_P D vwCl [(h0, .inr (9, [.ref m_tape, .int 0, .int 0, .ref m_rule, .ref m_rules, .int 0, .ref m_stair, .int 0, .int 0, .int ((-1)), .int 5, .int 5, .ref m_low, .ref m_high, .ref m_crack, .int 0, .ref m_weight, .ref m_fire, .ref m_crowd, .ref m_state, .ref m_where, .int 1, .int 0, .int 0, .ref m_words, .int 0, .int 0, .int 0, .int 0, .int 0, .int 0, .ref m_told, .ref m_breaks, .ref m_row, .ref m_tried, .ref m_steps, .ref m_paths])), (m_low, .inl (y_low, 100, .inl ga)), (m_high, .inl (y_high, 100, .inl gb)), (m_crack, .inl (y_crack, 100, .inl g)), (m_rule, .inl (y_rule, 8, .inl f_rule)), (m_breaks, .inl (y_breaks, 100, .inl b))] H → va_D A [(h0, .inr (9, [.ref m_tape, .int 0, .int 0, .ref m_rule, .ref m_rules, .int 0, .ref m_stair, .int 0, .int 0, .int ((-1)), .int 5, .int 5, .ref m_low, .ref m_high, .ref m_crack, .int 0, .ref m_weight, .ref m_fire, .ref m_crowd, .ref m_state, .ref m_where, .int 1, .int 0, .int 0, .ref m_words, .int 0, .int 0, .int 0, .int 0, .int 0, .int 0, .ref m_told, .ref m_breaks, .ref m_row, .ref m_tried, .ref m_steps, .ref m_paths])), (m_low, .inl (y_low, 100, .inl ga)), (m_high, .inl (y_high, 100, .inl gb)), (m_crack, .inl (y_crack, 100, .inl g)), (m_rule, .inl (y_rule, 8, .inl f_rule)), (m_breaks, .inl (y_breaks, 100, .inl b))] → va_S A s.heap H locs → ∀ ls : Array Slot, lv_has ls 6 [(0, .ref h0), (2, .int 0), (3, .int mo)] → W p l e ({ frames := 2, cells := 0, slots := 0, locals := 45 }) s m args below meth c H locs 0 0 Q (F0 m 313 ls [])) :
    ∀ n : Nat, ∀ (g : Nat → Int32) (i : Nat), (i ≤ 100) → (∀ j, j < i → ¬ b j = 0 → ¬ g j = 0) → (∀ j, g j = 0 → gc j = 0) → (100 - i) < n → ∀ (H : Heap) (locs : List Loc), va_P D vwCl [(h0, .inr (9, [.ref m_tape, .int 0, .int 0, .ref m_rule, .ref m_rules, .int 0, .ref m_stair, .int 0, .int 0, .int ((-1)), .int 5, .int 5, .ref m_low, .ref m_high, .ref m_crack, .int 0, .ref m_weight, .ref m_fire, .ref m_crowd, .ref m_state, .ref m_where, .int 1, .int 0, .int 0, .ref m_words, .int 0, .int 0, .int 0, .int 0, .int 0, .int 0, .ref m_told, .ref m_breaks, .ref m_row, .ref m_tried, .ref m_steps, .ref m_paths])), (m_low, .inl (y_low, 100, .inl ga)), (m_high, .inl (y_high, 100, .inl gb)), (m_crack, .inl (y_crack, 100, .inl g)), (m_rule, .inl (y_rule, 8, .inl f_rule)), (m_breaks, .inl (y_breaks, 100, .inl b))] H → va_D A [(h0, .inr (9, [.ref m_tape, .int 0, .int 0, .ref m_rule, .ref m_rules, .int 0, .ref m_stair, .int 0, .int 0, .int ((-1)), .int 5, .int 5, .ref m_low, .ref m_high, .ref m_crack, .int 0, .ref m_weight, .ref m_fire, .ref m_crowd, .ref m_state, .ref m_where, .int 1, .int 0, .int 0, .ref m_words, .int 0, .int 0, .int 0, .int 0, .int 0, .int 0, .ref m_told, .ref m_breaks, .ref m_row, .ref m_tried, .ref m_steps, .ref m_paths])), (m_low, .inl (y_low, 100, .inl ga)), (m_high, .inl (y_high, 100, .inl gb)), (m_crack, .inl (y_crack, 100, .inl g)), (m_rule, .inl (y_rule, 8, .inl f_rule)), (m_breaks, .inl (y_breaks, 100, .inl b))] → va_S A s.heap H locs → ∀ ls : Array Slot, lv_has ls 6 [(0, .ref h0), (2, .int 0), (3, .int mo), (4, .int (nI i))] → W p l e ({ frames := 2, cells := 0, slots := 0, locals := 45 }) s m args below meth c H locs 0 0 Q (F0 m 252 ls []) := by
  intro n
  induction n with
  | zero => intro g i hi k1 k2 hn; exact absurd hn (Nat.not_lt_zero _)
  | succ n ih =>
    intro g i hi k1 k2 hn H locs hP hD hS ls hl
    obtain ⟨hx, hb, hml, hown, hts⟩ := id F
    refine lv_iload hx hb dX10_hour_252 (lv_at hl 3 rfl) ?_
    refine lv_bipush (v := 100) hx hb dX10_hour_254 (by decide) ?_
    refine lv_icmp_ge (tgt := 313) hx hb dX10_hour_256 (by decide) (fun c_1 => ?_) (fun c_1 => ?_)
    · skip
      have c_1n : 100 ≤ i := (nI_leI (by omega) (by omega)).mp c_1
      have c_1 := Int32.not_lt.mpr c_1
      exact kx_313 g (fun j hj => k1 j (by omega)) k2 H locs (hP.sub [0, 1, 2, 3, 4, 5] rfl) (hD.sub [0, 1, 2, 3, 4, 5] (by decide) rfl) hS ls (lv_sub hl [0, 1, 2] rfl)
    · skip
      have c_1n : i < 100 := nb_le (by omega) (by omega) c_1
      have c_1 := Int32.not_le.mp c_1
      refine lv_aload_n hx hb dX10_hour_259 rfl (lv_at hl 0 rfl) ?_
      refine va_get (D := D) (ci := 9) (v := .ref m_breaks) (C := RX10) (T := TX10) (N := 37) hx hb hts inG_X10 hown hK hP 0 rfl rfl 32 (by decide) (hts _ kw_4_227) (fun _ h9 => h9) rfl dX10_hour_260 ?_
      refine lv_iload hx hb dX10_hour_263 (lv_at hl 3 rfl) ?_
      refine m_zald hx hb hK hP 5 4 rfl rfl i rfl (by omega) (by decide) dX10_hour_265 ?_
      refine lv_topi (fun v_2 ev_2 => ?_)
      refine lv_if_ne (tgt := 272) hx hb dX10_hour_266 (by decide) (fun c_3 => ?_) (fun c_3 => ?_)
      · skip
        refine lv_aload_n hx hb dX10_hour_272 rfl (lv_at hl 0 rfl) ?_
        refine va_get (D := D) (ci := 9) (v := .ref m_crack) (C := RX10) (T := TX10) (N := 37) hx hb hts inG_X10 hown hK hP 0 rfl rfl 14 (by decide) (hts _ kw_4_209) (fun _ h9 => h9) rfl dX10_hour_273 ?_
        refine lv_iload hx hb dX10_hour_276 (lv_at hl 3 rfl) ?_
        refine lv_iconst (v := 1) hx hb dX10_hour_278 (by decide) ?_
        refine m_zast hx hb hK hP hD hS 3 2 rfl rfl i rfl (by omega) (by decide) dX10_hour_279 (fun g_4 H locs eg_4 hP hD hS => ?_)
        have hP : va_P D vwCl [(h0, .inr (9, [.ref m_tape, .int 0, .int 0, .ref m_rule, .ref m_rules, .int 0, .ref m_stair, .int 0, .int 0, .int ((-1)), .int 5, .int 5, .ref m_low, .ref m_high, .ref m_crack, .int 0, .ref m_weight, .ref m_fire, .ref m_crowd, .ref m_state, .ref m_where, .int 1, .int 0, .int 0, .ref m_words, .int 0, .int 0, .int 0, .int 0, .int 0, .int 0, .ref m_told, .ref m_breaks, .ref m_row, .ref m_tried, .ref m_steps, .ref m_paths])), (m_low, .inl (y_low, 100, .inl ga)), (m_high, .inl (y_high, 100, .inl gb)), (m_crack, .inl (y_crack, 100, .inl g_4)), (m_rule, .inl (y_rule, 8, .inl f_rule)), (m_breaks, .inl (y_breaks, 100, .inl b))] H := hP
        have hD : va_D A [(h0, .inr (9, [.ref m_tape, .int 0, .int 0, .ref m_rule, .ref m_rules, .int 0, .ref m_stair, .int 0, .int 0, .int ((-1)), .int 5, .int 5, .ref m_low, .ref m_high, .ref m_crack, .int 0, .ref m_weight, .ref m_fire, .ref m_crowd, .ref m_state, .ref m_where, .int 1, .int 0, .int 0, .ref m_words, .int 0, .int 0, .int 0, .int 0, .int 0, .int 0, .ref m_told, .ref m_breaks, .ref m_row, .ref m_tried, .ref m_steps, .ref m_paths])), (m_low, .inl (y_low, 100, .inl ga)), (m_high, .inl (y_high, 100, .inl gb)), (m_crack, .inl (y_crack, 100, .inl g_4)), (m_rule, .inl (y_rule, 8, .inl f_rule)), (m_breaks, .inl (y_breaks, 100, .inl b))] := hD
        refine lv_aload_n hx hb dX10_hour_280 rfl (lv_at hl 0 rfl) ?_
        refine lv_iload hx hb dX10_hour_281 (lv_at hl 3 rfl) ?_
        refine mc_Vi (rest := []) (wr := [(m_low, .inl (y_low, 100, .inl ga)), (m_high, .inl (y_high, 100, .inl gb)), (m_crack, .inl (y_crack, 100, .inl g_4)), (m_rule, .inl (y_rule, 8, .inl f_rule)), (m_breaks, .inl (y_breaks, 100, .inl b))]) F hK hP hD hS hA (m_boothAt0 l D h0 m_tape m_rule m_rules m_stair m_low m_high m_crack m_weight m_fire m_crowd m_state m_where m_words m_told m_breaks m_row m_tried m_steps m_paths 0 0 0 0 0 ((-1)) 5 5 1 0 0 0 0 0 0 0 0 (nI i) ) ⟨gk_X10_177.1, gk_X10_177.2, Nat.le_of_ble_eq_true rfl, Nat.le_of_ble_eq_true rfl⟩ [0] [1, 2, 3, 4, 5] [] ⟨rfl, rfl, rfl, rfl, by decide⟩ rfl xT_move (fun _ _ _ => trivial) 0 rfl rfl rfl hl.1 rfl (Nat.le_of_ble_eq_true rfl) dX10_hour_283 ⟨Nat.le_of_ble_eq_true rfl, Nat.le_of_ble_eq_true rfl⟩ (fun r_5 _ H locs hw hK1 hP hD hS => ?_)
        have hP : va_P D vwCl [(m_low, .inl (y_low, 100, .inl ga)), (m_high, .inl (y_high, 100, .inl gb)), (m_crack, .inl (y_crack, 100, .inl g_4)), (m_rule, .inl (y_rule, 8, .inl f_rule)), (m_breaks, .inl (y_breaks, 100, .inl b)), (h0, .inr (9, [.ref m_tape, .int 0, .int 0, .ref m_rule, .ref m_rules, .int 0, .ref m_stair, .int 0, .int 0, .int (((-1))), .int 5, .int 5, .ref m_low, .ref m_high, .ref m_crack, .int 0, .ref m_weight, .ref m_fire, .ref m_crowd, .ref m_state, .ref m_where, .int 1, .int 0, .int 0, .ref m_words, .int 0, .int 0, .int 0, .int 0, .int 0, .int 0, .ref m_told, .ref m_breaks, .ref m_row, .ref m_tried, .ref m_steps, .ref m_paths]))] H := hP
        have hD : va_D A [(m_low, .inl (y_low, 100, .inl ga)), (m_high, .inl (y_high, 100, .inl gb)), (m_crack, .inl (y_crack, 100, .inl g_4)), (m_rule, .inl (y_rule, 8, .inl f_rule)), (m_breaks, .inl (y_breaks, 100, .inl b)), (h0, .inr (9, [.ref m_tape, .int 0, .int 0, .ref m_rule, .ref m_rules, .int 0, .ref m_stair, .int 0, .int 0, .int (((-1))), .int 5, .int 5, .ref m_low, .ref m_high, .ref m_crack, .int 0, .ref m_weight, .ref m_fire, .ref m_crowd, .ref m_state, .ref m_where, .int 1, .int 0, .int 0, .ref m_words, .int 0, .int 0, .int 0, .int 0, .int 0, .int 0, .ref m_told, .ref m_breaks, .ref m_row, .ref m_tried, .ref m_steps, .ref m_paths]))] := hD
        have hw_6 : r_5 = (-1) := hw
        obtain rfl : r_5 = (-1) := hw_6
        refine lv_istore (lv' := [(5, .int ((-1))), (0, .ref h0), (2, .int 0), (3, .int mo), (4, .int (nI i))]) hx hb dX10_hour_286 hl (by decide) rfl (fun ls hl => ?_)
        refine lv_iload hx hb dX10_hour_288 (lv_at hl 0 rfl) ?_
        refine lv_if_ge (tgt := 296) hx hb dX10_hour_290 (by decide) (fun c_7 => absurd c_7 (by decide)) (fun c_7 => ?_)
        refine lv_goto (tgt := 307) hx hb dX10_hour_293 (by decide) ?_
        refine lv_iinc (v := nI (i + 1)) (lv' := [(4, .int (nI (i + 1))), (5, .int ((-1))), (0, .ref h0), (2, .int 0), (3, .int mo)]) hx hb dX10_hour_307 hl (k := 4) rfl (nI_add i 1) (by decide) rfl (fun ls hl => ?_)
        refine lv_goto (tgt := 252) hx hb dX10_hour_310 (by decide) ?_
        exact ih g_4 (i + 1) (by omega) (ms_1 k1 eg_4) (mm_1 k2 eg_4) (by omega) H locs (hP.sub [5, 0, 1, 2, 3, 4] rfl) (hD.sub [5, 0, 1, 2, 3, 4] (by decide) rfl) hS ls (lv_sub hl [2, 3, 4, 0] rfl)
      · skip
        refine lv_goto (tgt := 307) hx hb dX10_hour_269 (by decide) ?_
        refine lv_iinc (v := nI (i + 1)) (lv' := [(4, .int (nI (i + 1))), (0, .ref h0), (2, .int 0), (3, .int mo)]) hx hb dX10_hour_307 hl (k := 3) rfl (nI_add i 1) (by decide) rfl (fun ls hl => ?_)
        refine lv_goto (tgt := 252) hx hb dX10_hour_310 (by decide) ?_
        exact ih g (i + 1) (by omega) (ms_0 k1 (by rw [← ev_2]; exact c_3)) k2 (by omega) H locs (hP.sub [0, 1, 2, 3, 4, 5] rfl) (hD.sub [0, 1, 2, 3, 4, 5] (by decide) rfl) hS ls (lv_sub hl [1, 2, 3, 0] rfl)
theorem dX10_hour_136 : decode cX10_hour 136 = .ok (.iload_n 3, 1) := by decide +kernel
theorem dX10_hour_137 : decode cX10_hour 137 = .ok (.ifCond .eq 179, 3) := by decide +kernel
theorem dX10_hour_140 : decode cX10_hour 140 = .ok (.iconst 0, 1) := by decide +kernel
theorem dX10_hour_141 : decode cX10_hour 141 = .ok (.istore_n 3, 1) := by decide +kernel
theorem dX10_hour_142 : decode cX10_hour 142 = .ok (.iconst 0, 1) := by decide +kernel
theorem dX10_hour_143 : decode cX10_hour 143 = .ok (.istore 4, 2) := by decide +kernel
theorem dX10_hour_249 : decode cX10_hour 249 = .ok (.iconst 0, 1) := by decide +kernel
theorem dX10_hour_250 : decode cX10_hour 250 = .ok (.istore 4, 2) := by decide +kernel
theorem dX10_hour_313 : decode cX10_hour 313 = .ok (.goto (-177), 3) := by decide +kernel
set_option maxHeartbeats 4000000 in
set_option maxRecDepth 100000 in
theorem lp_m_rounds {p : Program} {l : Launch} {e : Env} {s : State} {m : MethodId} {args : Array Value} {below : List Frame} {meth : Method} {c : Code} {Q : State → Prop} {A : Nat → Prop} {D : va_G} (F : mFix p s m args c cX10_hour 6 RX10) (hA : ∀ q, s.heap.size ≤ q → A q) (h0 : Nat) (m_tape : Nat) (m_rule : Nat) (m_rules : Nat) (m_stair : Nat) (m_low : Nat) (m_high : Nat) (m_crack : Nat) (m_weight : Nat) (m_fire : Nat) (m_crowd : Nat) (m_state : Nat) (m_where : Nat) (m_words : Nat) (m_told : Nat) (m_breaks : Nat) (m_row : Nat) (m_tried : Nat) (m_steps : Nat) (m_paths : Nat) (y_low : ClassId) (y_high : ClassId) (y_crack : ClassId) (y_rule : ClassId) (y_breaks : ClassId) (f_rule : Nat → Int32) (ga : Nat → Int32) (gb : Nat → Int32) (hK : va_K D vwCl [(y_low, .int), (y_high, .int), (y_crack, .boolean), (y_rule, .int), (y_breaks, .boolean)] s)
    (kx_316 : ∀ (gc : Nat → Int32) (b : Nat → Int32), ∀ (H : Heap) (locs : List Loc), va_P D vwCl [(h0, .inr (9, [.ref m_tape, .int 0, .int 0, .ref m_rule, .ref m_rules, .int 0, .ref m_stair, .int 0, .int 0, .int ((-1)), .int 5, .int 5, .ref m_low, .ref m_high, .ref m_crack, .int 0, .ref m_weight, .ref m_fire, .ref m_crowd, .ref m_state, .ref m_where, .int 1, .int 0, .int 0, .ref m_words, .int 0, .int 0, .int 0, .int 0, .int 0, .int 0, .ref m_told, .ref m_breaks, .ref m_row, .ref m_tried, .ref m_steps, .ref m_paths])), (m_low, .inl (y_low, 100, .inl ga)), (m_high, .inl (y_high, 100, .inl gb)), (m_crack, .inl (y_crack, 100, .inl gc)), (m_rule, .inl (y_rule, 8, .inl f_rule)), (m_breaks, .inl (y_breaks, 100, .inl b))] H → va_D A [(h0, .inr (9, [.ref m_tape, .int 0, .int 0, .ref m_rule, .ref m_rules, .int 0, .ref m_stair, .int 0, .int 0, .int ((-1)), .int 5, .int 5, .ref m_low, .ref m_high, .ref m_crack, .int 0, .ref m_weight, .ref m_fire, .ref m_crowd, .ref m_state, .ref m_where, .int 1, .int 0, .int 0, .ref m_words, .int 0, .int 0, .int 0, .int 0, .int 0, .int 0, .ref m_told, .ref m_breaks, .ref m_row, .ref m_tried, .ref m_steps, .ref m_paths])), (m_low, .inl (y_low, 100, .inl ga)), (m_high, .inl (y_high, 100, .inl gb)), (m_crack, .inl (y_crack, 100, .inl gc)), (m_rule, .inl (y_rule, 8, .inl f_rule)), (m_breaks, .inl (y_breaks, 100, .inl b))] → va_S A s.heap H locs → ∀ ls : Array Slot, lv_has ls 6 [(2, .int 0)] → W p l e ({ frames := 2, cells := 0, slots := 0, locals := 45 }) s m args below meth c H locs 0 0 Q (F0 m 316 ls [])) :
    ∀ n : Nat, ∀ (gc : Nat → Int32) (b : Nat → Int32) (mo : Int32), (2 * nz gc 100 + moN mo) < n → ∀ (H : Heap) (locs : List Loc), va_P D vwCl [(h0, .inr (9, [.ref m_tape, .int 0, .int 0, .ref m_rule, .ref m_rules, .int 0, .ref m_stair, .int 0, .int 0, .int ((-1)), .int 5, .int 5, .ref m_low, .ref m_high, .ref m_crack, .int 0, .ref m_weight, .ref m_fire, .ref m_crowd, .ref m_state, .ref m_where, .int 1, .int 0, .int 0, .ref m_words, .int 0, .int 0, .int 0, .int 0, .int 0, .int 0, .ref m_told, .ref m_breaks, .ref m_row, .ref m_tried, .ref m_steps, .ref m_paths])), (m_low, .inl (y_low, 100, .inl ga)), (m_high, .inl (y_high, 100, .inl gb)), (m_crack, .inl (y_crack, 100, .inl gc)), (m_rule, .inl (y_rule, 8, .inl f_rule)), (m_breaks, .inl (y_breaks, 100, .inl b))] H → va_D A [(h0, .inr (9, [.ref m_tape, .int 0, .int 0, .ref m_rule, .ref m_rules, .int 0, .ref m_stair, .int 0, .int 0, .int ((-1)), .int 5, .int 5, .ref m_low, .ref m_high, .ref m_crack, .int 0, .ref m_weight, .ref m_fire, .ref m_crowd, .ref m_state, .ref m_where, .int 1, .int 0, .int 0, .ref m_words, .int 0, .int 0, .int 0, .int 0, .int 0, .int 0, .ref m_told, .ref m_breaks, .ref m_row, .ref m_tried, .ref m_steps, .ref m_paths])), (m_low, .inl (y_low, 100, .inl ga)), (m_high, .inl (y_high, 100, .inl gb)), (m_crack, .inl (y_crack, 100, .inl gc)), (m_rule, .inl (y_rule, 8, .inl f_rule)), (m_breaks, .inl (y_breaks, 100, .inl b))] → va_S A s.heap H locs → ∀ ls : Array Slot, lv_has ls 6 [(0, .ref h0), (2, .int 0), (3, .int mo)] → W p l e ({ frames := 2, cells := 0, slots := 0, locals := 45 }) s m args below meth c H locs 0 0 Q (F0 m 136 ls []) := by
  intro n
  induction n with
  | zero => intro gc b mo  hn; exact absurd hn (Nat.not_lt_zero _)
  | succ n ih =>
    intro gc b mo  hn H locs hP hD hS ls hl
    obtain ⟨hx, hb, hml, hown, hts⟩ := id F
    refine lv_iload_n hx hb dX10_hour_136 rfl (lv_at hl 2 rfl) ?_
    refine lv_if_eq (tgt := 316) hx hb dX10_hour_137 (by decide) (fun c_1 => ?_) (fun c_1 => ?_)
    · skip
      exact kx_316 gc b  H locs (hP.sub [0, 1, 2, 3, 4, 5] rfl) (hD.sub [0, 1, 2, 3, 4, 5] (by decide) rfl) hS ls (lv_sub hl [1] rfl)
    · skip
      refine lv_iconst (v := 0) hx hb dX10_hour_140 (by decide) ?_
      refine lv_istore_n (lv' := [(3, .int 0), (0, .ref h0), (2, .int 0)]) hx hb dX10_hour_141 rfl hl (by decide) rfl (fun ls hl => ?_)
      refine lv_iconst (v := 0) hx hb dX10_hour_142 (by decide) ?_
      refine lv_istore (lv' := [(4, .int 0), (3, .int 0), (0, .ref h0), (2, .int 0)]) hx hb dX10_hour_143 hl (by decide) rfl (fun ls hl => ?_)
      refine lp_m_mark F hA h0 m_tape m_rule m_rules m_stair m_low m_high m_crack m_weight m_fire m_crowd m_state m_where m_words m_told m_breaks m_row m_tried m_steps m_paths y_low y_high y_crack y_rule y_breaks f_rule ga gb gc (hK.sub [0, 1, 2, 3, 4] rfl) (fun b_2 mo_3 h_4 H locs hP hD hS ls hl => ?_) _ b 0 0 (by omega) mo_0 (Nat.lt_succ_self _) _ _ (hP.sub [0, 1, 2, 3, 4, 5] rfl) (hD.sub [0, 1, 2, 3, 4, 5] (by decide) rfl) hS ls (lv_sub hl [2, 3, 1, 0] rfl)
      have h_4 : moF gc b_2 100 mo_3 := h_4
      refine lv_iconst (v := 0) hx hb dX10_hour_249 (by decide) ?_
      refine lv_istore (lv' := [(4, .int 0), (0, .ref h0), (2, .int 0), (3, .int mo_3)]) hx hb dX10_hour_250 hl (by decide) rfl (fun ls hl => ?_)
      refine lp_m_crack F hA h0 m_tape m_rule m_rules m_stair m_low m_high m_crack m_weight m_fire m_crowd m_state m_where m_words m_told m_breaks m_row m_tried m_steps m_paths y_low y_high y_crack y_rule y_breaks f_rule ga gb gc b_2 mo_3 (hK.sub [0, 1, 2, 3, 4] rfl) (fun g_5 h_6 h_7 H locs hP hD hS ls hl => ?_) _ gc 0 (by omega) (fun j hj => absurd hj (Nat.not_lt_zero j)) (fun _ h => h) (Nat.lt_succ_self _) _ _ (hP.sub [0, 1, 2, 3, 4, 5] rfl) (hD.sub [0, 1, 2, 3, 4, 5] (by decide) rfl) hS ls (lv_sub hl [1, 2, 3, 0] rfl)
      have h_6 : ∀ j, j < 100 → ¬ b_2 j = 0 → ¬ g_5 j = 0 := h_6
      have h_7 : ∀ j, g_5 j = 0 → gc j = 0 := h_7
      refine lv_goto (tgt := 136) hx hb dX10_hour_313 (by decide) ?_
      exact ih g_5 b_2 mo_3  (mo_dec c_1 h_4 h_6 h_7 hn) H locs (hP.sub [0, 1, 2, 3, 4, 5] rfl) (hD.sub [0, 1, 2, 3, 4, 5] (by decide) rfl) hS ls (lv_sub hl [0, 1, 2] rfl)
theorem dX10_hour_0 : decode cX10_hour 0 = .ok (.aload_n 0, 1) := by decide +kernel
theorem dX10_hour_1 : decode cX10_hour 1 = .ok (.iconst 0, 1) := by decide +kernel
theorem dX10_hour_2 : decode cX10_hour 2 = .ok (.putfield 78, 3) := by decide +kernel
theorem dX10_hour_5 : decode cX10_hour 5 = .ok (.iload_n 1, 1) := by decide +kernel
theorem dX10_hour_6 : decode cX10_hour 6 = .ok (.bipush (-9), 2) := by decide +kernel
theorem dX10_hour_8 : decode cX10_hour 8 = .ok (.if_icmp .lt 9, 3) := by decide +kernel
theorem dX10_hour_17 : decode cX10_hour 17 = .ok (.iconst (-1), 1) := by decide +kernel
theorem dX10_hour_18 : decode cX10_hour 18 = .ok (.ireturn, 1) := by decide +kernel
theorem dX10_hour_11 : decode cX10_hour 11 = .ok (.iload_n 1, 1) := by decide +kernel
theorem dX10_hour_12 : decode cX10_hour 12 = .ok (.bipush 9, 2) := by decide +kernel
theorem dX10_hour_14 : decode cX10_hour 14 = .ok (.if_icmp .le 5, 3) := by decide +kernel
theorem dX10_hour_19 : decode cX10_hour 19 = .ok (.aload_n 0, 1) := by decide +kernel
theorem dX10_hour_20 : decode cX10_hour 20 = .ok (.dup, 1) := by decide +kernel
theorem dX10_hour_21 : decode cX10_hour 21 = .ok (.getfield 149, 3) := by decide +kernel
theorem dX10_hour_24 : decode cX10_hour 24 = .ok (.iconst 1, 1) := by decide +kernel
theorem dX10_hour_25 : decode cX10_hour 25 = .ok (.iadd, 1) := by decide +kernel
theorem dX10_hour_26 : decode cX10_hour 26 = .ok (.putfield 149, 3) := by decide +kernel
theorem dX10_hour_29 : decode cX10_hour 29 = .ok (.iconst 0, 1) := by decide +kernel
theorem dX10_hour_30 : decode cX10_hour 30 = .ok (.istore_n 2, 1) := by decide +kernel
theorem dX10_hour_132 : decode cX10_hour 132 = .ok (.iconst 0, 1) := by decide +kernel
theorem dX10_hour_133 : decode cX10_hour 133 = .ok (.istore_n 2, 1) := by decide +kernel
theorem dX10_hour_134 : decode cX10_hour 134 = .ok (.iconst 1, 1) := by decide +kernel
theorem dX10_hour_135 : decode cX10_hour 135 = .ok (.istore_n 3, 1) := by decide +kernel
theorem dX10_hour_316 : decode cX10_hour 316 = .ok (.iload_n 2, 1) := by decide +kernel
theorem dX10_hour_317 : decode cX10_hour 317 = .ok (.ireturn, 1) := by decide +kernel
set_option maxHeartbeats 4000000 in
set_option maxRecDepth 100000 in
theorem m_hour (l : Launch) (D : va_G) (h0 : Nat) (m_tape : Nat) (m_rule : Nat) (m_rules : Nat) (m_stair : Nat) (m_low : Nat) (m_high : Nat) (m_crack : Nat) (m_weight : Nat) (m_fire : Nat) (m_crowd : Nat) (m_state : Nat) (m_where : Nat) (m_words : Nat) (m_told : Nat) (m_breaks : Nat) (m_row : Nat) (m_tried : Nat) (m_steps : Nat) (m_paths : Nat) (y_low : ClassId) (y_high : ClassId) (y_crack : ClassId) (y_rule : ClassId) (y_breaks : ClassId) (f_low : Nat → Int32) (f_high : Nat → Int32) (f_crack : Nat → Int32) (f_rule : Nat → Int32) (f_breaks : Nat → Int32) (co : Int32) : cI l yX10_hour (.code yX10_hour cX10_hour 6 (some .int)) ({ frames := 2, cells := 0, slots := 0, locals := 45 }) D [(y_low, .int), (y_high, .int), (y_crack, .boolean), (y_rule, .int), (y_breaks, .boolean)] [(h0, .inr (9, [.ref m_tape, .int 0, .int 0, .ref m_rule, .ref m_rules, .int 0, .ref m_stair, .int 0, .int 0, .int ((-1)), .int 5, .int 5, .ref m_low, .ref m_high, .ref m_crack, .int 0, .ref m_weight, .ref m_fire, .ref m_crowd, .ref m_state, .ref m_where, .int 0, .int 0, .int 0, .ref m_words, .int 0, .int 0, .int 0, .int 0, .int 0, .int 0, .ref m_told, .ref m_breaks, .ref m_row, .ref m_tried, .ref m_steps, .ref m_paths])), (m_low, .inl (y_low, 100, .inl f_low)), (m_high, .inl (y_high, 100, .inl f_high)), (m_crack, .inl (y_crack, 100, .inl f_crack)), (m_rule, .inl (y_rule, 8, .inl f_rule)), (m_breaks, .inl (y_breaks, 100, .inl f_breaks))] xT [.ref h0, .int co] (S := Unit) (fun r _ => r = (if co < (-9) ∨ 9 < co then (-1) else 0)) (fun _ => []) (fun _ => []) := by
  intro sz
  refine Met.ofW (cc := cX10_hour) (maxL := 6) (ret := (some .int)) (by decide) rfl ?_
  intro p e s m args below meth c s₁ B hml hv
  obtain ⟨rfl, hsz, hP, hK, hD0, hX⟩ := hv
  have hx := B.exec
  have hb := B.bytes
  have hr := B.returns
  have hts0 := atoms_spec (ws := .code yX10_hour cX10_hour 6 (some .int) :: gw) B.pre
  have hts := fun (w : Cond) (h : w ∈ gw) => hts0 w (List.mem_cons_of_mem _ h)
  have hown : s.vm.findClass RX10 = some m.cls := findClass_of_methodNamed B.named
  have hlocks := B.notSynchronized
  have F : mFix p s m _ c cX10_hour 6 RX10 := ⟨hx, hb, hml, hown, hts⟩
  subst hsz
  have hD := hD0.self (sz := s.heap.size)
  generalize hAe : va_A [(h0, .inr (9, [.ref m_tape, .int 0, .int 0, .ref m_rule, .ref m_rules, .int 0, .ref m_stair, .int 0, .int 0, .int ((-1)), .int 5, .int 5, .ref m_low, .ref m_high, .ref m_crack, .int 0, .ref m_weight, .ref m_fire, .ref m_crowd, .ref m_state, .ref m_where, .int 0, .int 0, .int 0, .ref m_words, .int 0, .int 0, .int 0, .int 0, .int 0, .int 0, .ref m_told, .ref m_breaks, .ref m_row, .ref m_tried, .ref m_steps, .ref m_paths])), (m_low, .inl (y_low, 100, .inl f_low)), (m_high, .inl (y_high, 100, .inl f_high)), (m_crack, .inl (y_crack, 100, .inl f_crack)), (m_rule, .inl (y_rule, 8, .inl f_rule)), (m_breaks, .inl (y_breaks, 100, .inl f_breaks))] s.heap.size = A at hD hX ⊢
  have hA : ∀ q : Nat, s.heap.size ≤ q → A q := fun q h => by rw [← hAe]; exact Or.inr h
  have hS : va_S A s.heap s.heap [] := va_S.rf
  have hl := lv_entry ([.ref h0, .int co]) (n := 6) (Nat.le_of_ble_eq_true rfl)
  rw [lg_entry_eq]
  generalize (lg_sl ([.ref h0, .int co]) ++ List.replicate (6 - (lg_sl ([.ref h0, .int co])).length) Slot.unset).toArray = ls at hl ⊢
  have hl : lv_has ls 6 [(0, .ref h0), (1, .int co)] := hl
  have hP : va_P D vwCl [(h0, .inr (9, [.ref m_tape, .int 0, .int 0, .ref m_rule, .ref m_rules, .int 0, .ref m_stair, .int 0, .int 0, .int ((-1)), .int 5, .int 5, .ref m_low, .ref m_high, .ref m_crack, .int 0, .ref m_weight, .ref m_fire, .ref m_crowd, .ref m_state, .ref m_where, .int 0, .int 0, .int 0, .ref m_words, .int 0, .int 0, .int 0, .int 0, .int 0, .int 0, .ref m_told, .ref m_breaks, .ref m_row, .ref m_tried, .ref m_steps, .ref m_paths])), (m_low, .inl (y_low, 100, .inl f_low)), (m_high, .inl (y_high, 100, .inl f_high)), (m_crack, .inl (y_crack, 100, .inl f_crack)), (m_rule, .inl (y_rule, 8, .inl f_rule)), (m_breaks, .inl (y_breaks, 100, .inl f_breaks))] s.heap := hP
  refine lv_aload_n hx hb dX10_hour_0 rfl (lv_at hl 0 rfl) ?_
  refine lv_iconst (v := 0) hx hb dX10_hour_1 (by decide) ?_
  refine va_put (D := D) (ci := 9) (v := .int 0) (ty := .int) (C := RX10) (T := TX10) (N := 37) hx hb hts inG_X10 tyX10 tyX10_ok nmX10 hown hK hP hD hS 0 rfl rfl 2 (by decide) (hts _ kw_4_197) (fun _ h9 => h9) rfl (by decide +kernel) rfl rfl (Nat.le_of_ble_eq_true rfl) dX10_hour_2 (fun H locs hP hD hS => ?_)
  have hP : va_P D vwCl [(h0, .inr (9, [.ref m_tape, .int 0, .int 0, .ref m_rule, .ref m_rules, .int 0, .ref m_stair, .int 0, .int 0, .int ((-1)), .int 5, .int 5, .ref m_low, .ref m_high, .ref m_crack, .int 0, .ref m_weight, .ref m_fire, .ref m_crowd, .ref m_state, .ref m_where, .int 0, .int 0, .int 0, .ref m_words, .int 0, .int 0, .int 0, .int 0, .int 0, .int 0, .ref m_told, .ref m_breaks, .ref m_row, .ref m_tried, .ref m_steps, .ref m_paths])), (m_low, .inl (y_low, 100, .inl f_low)), (m_high, .inl (y_high, 100, .inl f_high)), (m_crack, .inl (y_crack, 100, .inl f_crack)), (m_rule, .inl (y_rule, 8, .inl f_rule)), (m_breaks, .inl (y_breaks, 100, .inl f_breaks))] H := hP
  have hD : va_D A [(h0, .inr (9, [.ref m_tape, .int 0, .int 0, .ref m_rule, .ref m_rules, .int 0, .ref m_stair, .int 0, .int 0, .int ((-1)), .int 5, .int 5, .ref m_low, .ref m_high, .ref m_crack, .int 0, .ref m_weight, .ref m_fire, .ref m_crowd, .ref m_state, .ref m_where, .int 0, .int 0, .int 0, .ref m_words, .int 0, .int 0, .int 0, .int 0, .int 0, .int 0, .ref m_told, .ref m_breaks, .ref m_row, .ref m_tried, .ref m_steps, .ref m_paths])), (m_low, .inl (y_low, 100, .inl f_low)), (m_high, .inl (y_high, 100, .inl f_high)), (m_crack, .inl (y_crack, 100, .inl f_crack)), (m_rule, .inl (y_rule, 8, .inl f_rule)), (m_breaks, .inl (y_breaks, 100, .inl f_breaks))] := hD
  refine lv_iload_n hx hb dX10_hour_5 rfl (lv_at hl 1 rfl) ?_
  refine lv_bipush (v := -9) hx hb dX10_hour_6 (by decide) ?_
  refine lv_icmp_lt (tgt := 17) hx hb dX10_hour_8 (by decide) (fun c_1 => ?_) (fun c_1 => ?_)
  · skip
    refine lv_iconst (v := -1) hx hb dX10_hour_17 (by decide) ?_
    have hP9 := hP.sub (ws' := []) [] rfl
    have hD9 := hD.sub (ws' := []) [] (by decide) rfl
    have hK9 := hK.sub (tys' := []) [] rfl
    refine W.widen (k := 0) (n := 0) (by decide) (by decide) ?_
    exact W.iret (v := (-1)) hx hb hr (fun t ht hW => ⟨⟨((-1)), (), rfl, by simp only [c_1, or_false, false_or, or_true, true_or, not_true_eq_false, not_false_eq_true, ↓reduceIte], by rw [ht]; exact hP9, va_K.moved hW.alike hK9, hD9⟩, hS.F ht⟩) hS.2.2 dX10_hour_18
  · skip
    refine lv_iload_n hx hb dX10_hour_11 rfl (lv_at hl 1 rfl) ?_
    refine lv_bipush (v := 9) hx hb dX10_hour_12 (by decide) ?_
    refine lv_icmp_le (tgt := 19) hx hb dX10_hour_14 (by decide) (fun c_2 => ?_) (fun c_2 => ?_)
    · skip
      have c_2 := Int32.not_lt.mpr c_2
      refine lv_aload_n hx hb dX10_hour_19 rfl (lv_at hl 0 rfl) ?_
      refine lv_dup hx hb dX10_hour_20 rfl ?_
      refine va_get (D := D) (ci := 9) (v := .int 0) (C := RX10) (T := TX10) (N := 37) hx hb hts inG_X10 hown hK hP 0 rfl rfl 21 (by decide) (hts _ kw_4_216) (fun _ h9 => h9) rfl dX10_hour_21 ?_
      refine lv_iconst (v := 1) hx hb dX10_hour_24 (by decide) ?_
      refine lv_iadd hx hb dX10_hour_25 ?_
      refine lv_topi (fun z_3 ez_3 => ?_)
      obtain rfl : z_3 = (1 : Int32) := ez_3.trans (by decide)
      refine va_put (D := D) (ci := 9) (v := .int 1) (ty := .int) (C := RX10) (T := TX10) (N := 37) hx hb hts inG_X10 tyX10 tyX10_ok nmX10 hown hK hP hD hS 0 rfl rfl 21 (by decide) (hts _ kw_4_216) (fun _ h9 => h9) rfl (by decide +kernel) rfl rfl (Nat.le_of_ble_eq_true rfl) dX10_hour_26 (fun H locs hP hD hS => ?_)
      have hP : va_P D vwCl [(h0, .inr (9, [.ref m_tape, .int 0, .int 0, .ref m_rule, .ref m_rules, .int 0, .ref m_stair, .int 0, .int 0, .int ((-1)), .int 5, .int 5, .ref m_low, .ref m_high, .ref m_crack, .int 0, .ref m_weight, .ref m_fire, .ref m_crowd, .ref m_state, .ref m_where, .int 1, .int 0, .int 0, .ref m_words, .int 0, .int 0, .int 0, .int 0, .int 0, .int 0, .ref m_told, .ref m_breaks, .ref m_row, .ref m_tried, .ref m_steps, .ref m_paths])), (m_low, .inl (y_low, 100, .inl f_low)), (m_high, .inl (y_high, 100, .inl f_high)), (m_crack, .inl (y_crack, 100, .inl f_crack)), (m_rule, .inl (y_rule, 8, .inl f_rule)), (m_breaks, .inl (y_breaks, 100, .inl f_breaks))] H := hP
      have hD : va_D A [(h0, .inr (9, [.ref m_tape, .int 0, .int 0, .ref m_rule, .ref m_rules, .int 0, .ref m_stair, .int 0, .int 0, .int ((-1)), .int 5, .int 5, .ref m_low, .ref m_high, .ref m_crack, .int 0, .ref m_weight, .ref m_fire, .ref m_crowd, .ref m_state, .ref m_where, .int 1, .int 0, .int 0, .ref m_words, .int 0, .int 0, .int 0, .int 0, .int 0, .int 0, .ref m_told, .ref m_breaks, .ref m_row, .ref m_tried, .ref m_steps, .ref m_paths])), (m_low, .inl (y_low, 100, .inl f_low)), (m_high, .inl (y_high, 100, .inl f_high)), (m_crack, .inl (y_crack, 100, .inl f_crack)), (m_rule, .inl (y_rule, 8, .inl f_rule)), (m_breaks, .inl (y_breaks, 100, .inl f_breaks))] := hD
      refine lv_iconst (v := 0) hx hb dX10_hour_29 (by decide) ?_
      refine lv_istore_n (lv' := [(2, .int 0), (0, .ref h0), (1, .int co)]) hx hb dX10_hour_30 rfl hl (by decide) rfl (fun ls hl => ?_)
      refine lp_m_hour1 F hA h0 m_tape m_rule m_rules m_stair m_low m_high m_crack m_weight m_fire m_crowd m_state m_where m_words m_told m_breaks m_row m_tried m_steps m_paths y_low y_high y_crack y_rule y_breaks f_rule f_breaks co (hK.sub [0, 1, 2, 3, 4] rfl) (fun ga_4 gb_5 gc_6  H locs hP hD hS ls hl => ?_) _ f_low f_high f_crack 0 (by omega) (Nat.lt_succ_self _) _ _ (hP.sub [0, 1, 2, 3, 4, 5] rfl) (hD.sub [0, 1, 2, 3, 4, 5] (by decide) rfl) hS ls (lv_sub hl [1, 2, 0] rfl)
      refine lv_iconst (v := 0) hx hb dX10_hour_132 (by decide) ?_
      refine lv_istore_n (lv' := [(2, .int 0), (0, .ref h0)]) hx hb dX10_hour_133 rfl hl (by decide) rfl (fun ls hl => ?_)
      refine lv_iconst (v := 1) hx hb dX10_hour_134 (by decide) ?_
      refine lv_istore_n (lv' := [(3, .int 1), (2, .int 0), (0, .ref h0)]) hx hb dX10_hour_135 rfl hl (by decide) rfl (fun ls hl => ?_)
      refine lp_m_rounds F hA h0 m_tape m_rule m_rules m_stair m_low m_high m_crack m_weight m_fire m_crowd m_state m_where m_words m_told m_breaks m_row m_tried m_steps m_paths y_low y_high y_crack y_rule y_breaks f_rule ga_4 gb_5 (hK.sub [0, 1, 2, 3, 4] rfl) (fun gc_7 b_8  H locs hP hD hS ls hl => ?_) _ gc_6 f_breaks 1  (Nat.lt_succ_self _) _ _ (hP.sub [0, 1, 2, 3, 4, 5] rfl) (hD.sub [0, 1, 2, 3, 4, 5] (by decide) rfl) hS ls (lv_sub hl [2, 1, 0] rfl)
      refine lv_iload_n hx hb dX10_hour_316 rfl (lv_at hl 0 rfl) ?_
      have hP9 := hP.sub (ws' := []) [] rfl
      have hD9 := hD.sub (ws' := []) [] (by decide) rfl
      have hK9 := hK.sub (tys' := []) [] rfl
      refine W.widen (k := 0) (n := 0) (by decide) (by decide) ?_
      exact W.iret (v := 0) hx hb hr (fun t ht hW => ⟨⟨0, (), rfl, by simp only [c_1, c_2, or_false, false_or, or_true, true_or, not_true_eq_false, not_false_eq_true, ↓reduceIte], by rw [ht]; exact hP9, va_K.moved hW.alike hK9, hD9⟩, hS.F ht⟩) hS.2.2 dX10_hour_317
    · skip
      have c_2 := Int32.not_le.mp c_2
      refine lv_iconst (v := -1) hx hb dX10_hour_17 (by decide) ?_
      have hP9 := hP.sub (ws' := []) [] rfl
      have hD9 := hD.sub (ws' := []) [] (by decide) rfl
      have hK9 := hK.sub (tys' := []) [] rfl
      refine W.widen (k := 0) (n := 0) (by decide) (by decide) ?_
      exact W.iret (v := (-1)) hx hb hr (fun t ht hW => ⟨⟨((-1)), (), rfl, by simp only [c_1, c_2, or_false, false_or, or_true, true_or, not_true_eq_false, not_false_eq_true, ↓reduceIte], by rw [ht]; exact hP9, va_K.moved hW.alike hK9, hD9⟩, hS.F ht⟩) hS.2.2 dX10_hour_18
