set_option maxHeartbeats 4000000 in
set_option maxRecDepth 100000 in
theorem p_append (l : Launch) (D : va_G) (h0 : Nat) (tp1 : Nat) (tc : ClassId) (tf : Nat → Int32) (ln : Nat) (x : Int32) (hl6 : ln ≤ 396) : cV l yX7_append (.code yX7_append cX7_append 2 none) ({ frames := 0, cells := 0, slots := 0, locals := 0 }) D [(tc, .int)] [(h0, Sum.inr (6, [Value.ref tp1, Value.int (nI ln)])), (tp1, Sum.inl (tc, 400, Sum.inl tf))] xT [Value.ref h0, Value.int x] (S := Nat → Int32) (fun u => match u with | tf1 => tf1 = ap4 tf ln x) (fun u => match u with | tf1 => []) (fun u => match u with | tf1 => [(h0, Sum.inr (6, [Value.ref tp1, Value.int (nI (ln + 4))])), (tp1, Sum.inl (tc, 400, Sum.inl tf1))]) := by
  intro sz
  refine Met.ofW (cc := cX7_append) (maxL := 2) (ret := none) (by decide) rfl ?_
  intro p e s m args below meth c s₁ B hml hv
  obtain ⟨rfl, hsz, hP, hK, hD0, hX⟩ := hv
  have hx := B.exec
  have hb := B.bytes
  have hr := B.returns
  have hts0 := atoms_spec (ws := .code yX7_append cX7_append 2 none :: gw) B.pre
  have hts := fun (w : Cond) (h : w ∈ gw) => hts0 w (List.mem_cons_of_mem _ h)
  have hown : s.vm.findClass RX7 = some m.cls := findClass_of_methodNamed B.named
  have hlocks := B.notSynchronized
  have F : mFix p s m _ c cX7_append 2 RX7 := ⟨hx, hb, hml, hown, hts⟩
  subst hsz
  have hD := hD0.self (sz := s.heap.size)
  generalize hAe : va_A [(h0, Sum.inr (6, [Value.ref tp1, Value.int (nI ln)])), (tp1, Sum.inl (tc, 400, Sum.inl tf))] s.heap.size = A at hD hX ⊢
  have hA : ∀ q : Nat, s.heap.size ≤ q → A q := fun q h => by rw [← hAe]; exact Or.inr h
  have hS : va_S A s.heap s.heap [] := va_S.rf
  have hl := lv_entry ([Value.ref h0, Value.int x]) (n := 2) (Nat.le_of_ble_eq_true rfl)
  rw [lg_entry_eq]
  generalize (lg_sl ([Value.ref h0, Value.int x]) ++ List.replicate (2 - (lg_sl ([Value.ref h0, Value.int x])).length) Slot.unset).toArray = ls at hl ⊢
  have hl : lv_has ls 2 [(0, Value.ref h0), (1, Value.int x)] := hl
  have hP : va_P D vwCl [(h0, Sum.inr (6, [Value.ref tp1, Value.int (nI ln)])), (tp1, Sum.inl (tc, 400, Sum.inl tf))] s.heap := hP
  refine lv_aload_n hx hb dX7_append_0 rfl (lv_at hl 0 rfl) ?_
  refine va_get (D := D) (ci := 6) (v := Value.int (nI ln)) (C := RX7) (T := TX7) (N := 2) hx hb hts inG_X7 hown hK hP 0 rfl rfl 1 (by decide) (hts _ kw_1_40) (fun _ h9 => h9) rfl dX7_append_1 ?_
  refine lv_if_lt (tgt := 17) hx hb dX7_append_4 (by decide) (fun c_1 => absurd c_1 (nI_pos (by omega))) (fun c_1 => ?_)
  have c_1n : 0 ≤ ln := nb_lt (by omega) (by omega) c_1
  refine lv_aload_n hx hb dX7_append_7 rfl (lv_at hl 0 rfl) ?_
  refine va_get (D := D) (ci := 6) (v := Value.int (nI ln)) (C := RX7) (T := TX7) (N := 2) hx hb hts inG_X7 hown hK hP 0 rfl rfl 1 (by decide) (hts _ kw_1_40) (fun _ h9 => h9) rfl dX7_append_8 ?_
  refine lv_sipush (v := 396) hx hb dX7_append_11 (by decide) ?_
  refine lv_icmp_le (tgt := 18) hx hb dX7_append_14 (by decide) (fun c_2 => ?_) (fun c_2 => absurd ((nI_leI (a := ln) (b := 396) (by omega) (by decide)).mpr hl6) c_2)
  have c_2n : ln ≤ 396 := (nI_leI (by omega) (by omega)).mp c_2
  have c_2 := Int32.not_lt.mpr c_2
  refine lv_aload_n hx hb dX7_append_18 rfl (lv_at hl 0 rfl) ?_
  refine va_get (D := D) (ci := 6) (v := Value.ref tp1) (C := RX7) (T := TX7) (N := 2) hx hb hts inG_X7 hown hK hP 0 rfl rfl 0 (by decide) (hts _ kw_1_38) (fun _ h9 => h9) rfl dX7_append_19 ?_
  refine lv_aload_n hx hb dX7_append_22 rfl (lv_at hl 0 rfl) ?_
  refine va_get (D := D) (ci := 6) (v := Value.int (nI ln)) (C := RX7) (T := TX7) (N := 2) hx hb hts inG_X7 hown hK hP 0 rfl rfl 1 (by decide) (hts _ kw_1_40) (fun _ h9 => h9) rfl dX7_append_23 ?_
  refine lv_iload_n hx hb dX7_append_26 rfl (lv_at hl 1 rfl) ?_
  refine lv_bipush (v := 24) hx hb dX7_append_27 (by decide) ?_
  obtain ⟨z_3, ez_3⟩ : ∃ z : Int32, (x.toUInt32 >>> ((24 : Int32).toUInt32 &&& Int32.toUInt32 31)).toInt32 = z := ⟨_, rfl⟩
  refine lv_iushr hx hb dX7_append_29 ez_3 ?_
  refine lv_sipush (v := 255) hx hb dX7_append_30 (by decide) ?_
  refine lv_iand hx hb dX7_append_33 ?_
  refine lv_topi (fun z_4 ez_4 => ?_)
  refine m_iast hx hb hK hP hD hS 1 0 rfl rfl ln rfl (by omega) (by decide) dX7_append_34 (fun g_5 H locs eg_5 hP hD hS => ?_)
  have hP : va_P D vwCl [(h0, Sum.inr (6, [Value.ref tp1, Value.int (nI ln)])), (tp1, Sum.inl (tc, 400, Sum.inl g_5))] H := hP
  have hD : va_D A [(h0, Sum.inr (6, [Value.ref tp1, Value.int (nI ln)])), (tp1, Sum.inl (tc, 400, Sum.inl g_5))] := hD
  refine lv_aload_n hx hb dX7_append_35 rfl (lv_at hl 0 rfl) ?_
  refine va_get (D := D) (ci := 6) (v := Value.ref tp1) (C := RX7) (T := TX7) (N := 2) hx hb hts inG_X7 hown hK hP 0 rfl rfl 0 (by decide) (hts _ kw_1_38) (fun _ h9 => h9) rfl dX7_append_36 ?_
  refine lv_aload_n hx hb dX7_append_39 rfl (lv_at hl 0 rfl) ?_
  refine va_get (D := D) (ci := 6) (v := Value.int (nI ln)) (C := RX7) (T := TX7) (N := 2) hx hb hts inG_X7 hown hK hP 0 rfl rfl 1 (by decide) (hts _ kw_1_40) (fun _ h9 => h9) rfl dX7_append_40 ?_
  refine lv_iconst (v := 1) hx hb dX7_append_43 (by decide) ?_
  refine lv_iadd hx hb dX7_append_44 ?_
  refine lv_topi (fun z_6 ez_6 => ?_)
  obtain rfl : z_6 = nI (ln + 1) := ez_6.trans (nI_add ln 1)
  refine lv_iload_n hx hb dX7_append_45 rfl (lv_at hl 1 rfl) ?_
  refine lv_bipush (v := 16) hx hb dX7_append_46 (by decide) ?_
  obtain ⟨z_7, ez_7⟩ : ∃ z : Int32, (x.toUInt32 >>> ((16 : Int32).toUInt32 &&& Int32.toUInt32 31)).toInt32 = z := ⟨_, rfl⟩
  refine lv_iushr hx hb dX7_append_48 ez_7 ?_
  refine lv_sipush (v := 255) hx hb dX7_append_49 (by decide) ?_
  refine lv_iand hx hb dX7_append_52 ?_
  refine lv_topi (fun z_8 ez_8 => ?_)
  refine m_iast hx hb hK hP hD hS 1 0 rfl rfl (ln + 1) rfl (by omega) (by decide) dX7_append_53 (fun g_9 H locs eg_9 hP hD hS => ?_)
  have hP : va_P D vwCl [(h0, Sum.inr (6, [Value.ref tp1, Value.int (nI ln)])), (tp1, Sum.inl (tc, 400, Sum.inl g_9))] H := hP
  have hD : va_D A [(h0, Sum.inr (6, [Value.ref tp1, Value.int (nI ln)])), (tp1, Sum.inl (tc, 400, Sum.inl g_9))] := hD
  refine lv_aload_n hx hb dX7_append_54 rfl (lv_at hl 0 rfl) ?_
  refine va_get (D := D) (ci := 6) (v := Value.ref tp1) (C := RX7) (T := TX7) (N := 2) hx hb hts inG_X7 hown hK hP 0 rfl rfl 0 (by decide) (hts _ kw_1_38) (fun _ h9 => h9) rfl dX7_append_55 ?_
  refine lv_aload_n hx hb dX7_append_58 rfl (lv_at hl 0 rfl) ?_
  refine va_get (D := D) (ci := 6) (v := Value.int (nI ln)) (C := RX7) (T := TX7) (N := 2) hx hb hts inG_X7 hown hK hP 0 rfl rfl 1 (by decide) (hts _ kw_1_40) (fun _ h9 => h9) rfl dX7_append_59 ?_
  refine lv_iconst (v := 2) hx hb dX7_append_62 (by decide) ?_
  refine lv_iadd hx hb dX7_append_63 ?_
  refine lv_topi (fun z_10 ez_10 => ?_)
  obtain rfl : z_10 = nI (ln + 2) := ez_10.trans (nI_add ln 2)
  refine lv_iload_n hx hb dX7_append_64 rfl (lv_at hl 1 rfl) ?_
  refine lv_bipush (v := 8) hx hb dX7_append_65 (by decide) ?_
  obtain ⟨z_11, ez_11⟩ : ∃ z : Int32, (x.toUInt32 >>> ((8 : Int32).toUInt32 &&& Int32.toUInt32 31)).toInt32 = z := ⟨_, rfl⟩
  refine lv_iushr hx hb dX7_append_67 ez_11 ?_
  refine lv_sipush (v := 255) hx hb dX7_append_68 (by decide) ?_
  refine lv_iand hx hb dX7_append_71 ?_
  refine lv_topi (fun z_12 ez_12 => ?_)
  refine m_iast hx hb hK hP hD hS 1 0 rfl rfl (ln + 2) rfl (by omega) (by decide) dX7_append_72 (fun g_13 H locs eg_13 hP hD hS => ?_)
  have hP : va_P D vwCl [(h0, Sum.inr (6, [Value.ref tp1, Value.int (nI ln)])), (tp1, Sum.inl (tc, 400, Sum.inl g_13))] H := hP
  have hD : va_D A [(h0, Sum.inr (6, [Value.ref tp1, Value.int (nI ln)])), (tp1, Sum.inl (tc, 400, Sum.inl g_13))] := hD
  refine lv_aload_n hx hb dX7_append_73 rfl (lv_at hl 0 rfl) ?_
  refine va_get (D := D) (ci := 6) (v := Value.ref tp1) (C := RX7) (T := TX7) (N := 2) hx hb hts inG_X7 hown hK hP 0 rfl rfl 0 (by decide) (hts _ kw_1_38) (fun _ h9 => h9) rfl dX7_append_74 ?_
  refine lv_aload_n hx hb dX7_append_77 rfl (lv_at hl 0 rfl) ?_
  refine va_get (D := D) (ci := 6) (v := Value.int (nI ln)) (C := RX7) (T := TX7) (N := 2) hx hb hts inG_X7 hown hK hP 0 rfl rfl 1 (by decide) (hts _ kw_1_40) (fun _ h9 => h9) rfl dX7_append_78 ?_
  refine lv_iconst (v := 3) hx hb dX7_append_81 (by decide) ?_
  refine lv_iadd hx hb dX7_append_82 ?_
  refine lv_topi (fun z_14 ez_14 => ?_)
  obtain rfl : z_14 = nI (ln + 3) := ez_14.trans (nI_add ln 3)
  refine lv_iload_n hx hb dX7_append_83 rfl (lv_at hl 1 rfl) ?_
  refine lv_sipush (v := 255) hx hb dX7_append_84 (by decide) ?_
  refine lv_iand hx hb dX7_append_87 ?_
  refine lv_topi (fun z_15 ez_15 => ?_)
  refine m_iast hx hb hK hP hD hS 1 0 rfl rfl (ln + 3) rfl (by omega) (by decide) dX7_append_88 (fun g_16 H locs eg_16 hP hD hS => ?_)
  have hP : va_P D vwCl [(h0, Sum.inr (6, [Value.ref tp1, Value.int (nI ln)])), (tp1, Sum.inl (tc, 400, Sum.inl g_16))] H := hP
  have hD : va_D A [(h0, Sum.inr (6, [Value.ref tp1, Value.int (nI ln)])), (tp1, Sum.inl (tc, 400, Sum.inl g_16))] := hD
  refine lv_aload_n hx hb dX7_append_89 rfl (lv_at hl 0 rfl) ?_
  refine lv_dup hx hb dX7_append_90 rfl ?_
  refine va_get (D := D) (ci := 6) (v := Value.int (nI ln)) (C := RX7) (T := TX7) (N := 2) hx hb hts inG_X7 hown hK hP 0 rfl rfl 1 (by decide) (hts _ kw_1_40) (fun _ h9 => h9) rfl dX7_append_91 ?_
  refine lv_iconst (v := 4) hx hb dX7_append_94 (by decide) ?_
  refine lv_iadd hx hb dX7_append_95 ?_
  refine lv_topi (fun z_17 ez_17 => ?_)
  obtain rfl : z_17 = nI (ln + 4) := ez_17.trans (nI_add ln 4)
  refine va_put (D := D) (ci := 6) (v := Value.int (nI (ln + 4))) (ty := .int) (C := RX7) (T := TX7) (N := 2) hx hb hts inG_X7 tyX7 tyX7_ok nmX7 hown hK hP hD hS 0 rfl rfl 1 (by decide) (hts _ kw_1_40) (fun _ h9 => h9) rfl (by decide +kernel) rfl rfl (Nat.le_of_ble_eq_true rfl) dX7_append_96 (fun H locs hP hD hS => ?_)
  have hP : va_P D vwCl [(h0, Sum.inr (6, [Value.ref tp1, Value.int (nI (ln + 4))])), (tp1, Sum.inl (tc, 400, Sum.inl g_16))] H := hP
  have hD : va_D A [(h0, Sum.inr (6, [Value.ref tp1, Value.int (nI (ln + 4))])), (tp1, Sum.inl (tc, 400, Sum.inl g_16))] := hD
  have hP9 := hP.sub (ws' := [(h0, Sum.inr (6, [Value.ref tp1, Value.int (nI (ln + 4))])), (tp1, Sum.inl (tc, 400, Sum.inl g_16))]) [0, 1] rfl
  have hD9 := hD.sub (ws' := [(h0, Sum.inr (6, [Value.ref tp1, Value.int (nI (ln + 4))])), (tp1, Sum.inl (tc, 400, Sum.inl g_16))]) [0, 1] (by decide) rfl
  have hK9 := hK.sub (tys' := []) [] rfl
  refine W.widen (k := 0) (n := 0) (by decide) (by decide) ?_
  exact W.vret hx hb hr (fun t ht hW => ⟨⟨g_16, rfl, ap4_of (g1 := g_5) (g2 := g_9) (g3 := g_13) (g4 := g_16) (by rw [eg_5, ez_4, ← ez_3]; exact congrArg (upd _ _) (bt_0 x)) (by rw [eg_9, ez_8, ← ez_7]; exact congrArg (upd _ _) (bt_1 x)) (by rw [eg_13, ez_12, ← ez_11]; exact congrArg (upd _ _) (bt_2 x)) (by rw [eg_16, ez_15]; exact congrArg (upd _ _) (bt_3 x)), by rw [ht]; exact hP9, va_K.moved hW.alike hK9, hD9⟩, hS.F ht⟩) hS.2.2 dX7_append_99
set_option maxHeartbeats 4000000 in
set_option maxRecDepth 100000 in
theorem p_feed (l : Launch) (D : va_G) (h0 : Nat) (tp : Nat) (rd : Nat) (dr : Nat) (fa : Nat) (ly : Nat) (wy : Nat) (tp1 : Nat) (ln : Nat) (tc : ClassId) (tf : Nat → Int32) (a1 : Int32) (a2 : Int32) (a3 : Int32) (a4 : Int32) (a5 : Int32) (hln : ln ≤ 400) : cI l yX9_feed (.code yX9_feed cX9_feed 6 (some .int)) ({ frames := 1, cells := 0, slots := 0, locals := 21 }) D [(tc, .int)] [(h0, Sum.inr (8, [Value.ref tp, Value.ref rd, Value.ref dr, Value.ref fa, Value.ref ly, Value.ref wy])), (tp, Sum.inr (6, [Value.ref tp1, Value.int (nI ln)])), (tp1, Sum.inl (tc, 400, Sum.inl tf))] xT [Value.ref h0, Value.int a1, Value.int a2, Value.int a3, Value.int a4, Value.int a5] (S := Nat × (Nat → Int32)) (fun r u => match u with | (ln1, tf1) => (380 < ln ∧ r = (-1) ∧ ln1 = ln ∧ tf1 = tf) ∨ (ln ≤ 380 ∧ r = nI (ln + 20) ∧ ln1 = ln + 20 ∧ tf1 = fdT tf ln a1 a2 a3 a4 a5)) (fun u => match u with | (ln1, tf1) => []) (fun u => match u with | (ln1, tf1) => [(h0, Sum.inr (8, [Value.ref tp, Value.ref rd, Value.ref dr, Value.ref fa, Value.ref ly, Value.ref wy])), (tp, Sum.inr (6, [Value.ref tp1, Value.int (nI ln1)])), (tp1, Sum.inl (tc, 400, Sum.inl tf1))]) := by
  intro sz
  refine Met.ofW (cc := cX9_feed) (maxL := 6) (ret := (some .int)) (by decide) rfl ?_
  intro p e s m args below meth c s₁ B hml hv
  obtain ⟨rfl, hsz, hP, hK, hD0, hX⟩ := hv
  have hx := B.exec
  have hb := B.bytes
  have hr := B.returns
  have hts0 := atoms_spec (ws := .code yX9_feed cX9_feed 6 (some .int) :: gw) B.pre
  have hts := fun (w : Cond) (h : w ∈ gw) => hts0 w (List.mem_cons_of_mem _ h)
  have hown : s.vm.findClass RX9 = some m.cls := findClass_of_methodNamed B.named
  have hlocks := B.notSynchronized
  have F : mFix p s m _ c cX9_feed 6 RX9 := ⟨hx, hb, hml, hown, hts⟩
  subst hsz
  have hD := hD0.self (sz := s.heap.size)
  generalize hAe : va_A [(h0, Sum.inr (8, [Value.ref tp, Value.ref rd, Value.ref dr, Value.ref fa, Value.ref ly, Value.ref wy])), (tp, Sum.inr (6, [Value.ref tp1, Value.int (nI ln)])), (tp1, Sum.inl (tc, 400, Sum.inl tf))] s.heap.size = A at hD hX ⊢
  have hA : ∀ q : Nat, s.heap.size ≤ q → A q := fun q h => by rw [← hAe]; exact Or.inr h
  have hS : va_S A s.heap s.heap [] := va_S.rf
  have hl := lv_entry ([Value.ref h0, Value.int a1, Value.int a2, Value.int a3, Value.int a4, Value.int a5]) (n := 6) (Nat.le_of_ble_eq_true rfl)
  rw [lg_entry_eq]
  generalize (lg_sl ([Value.ref h0, Value.int a1, Value.int a2, Value.int a3, Value.int a4, Value.int a5]) ++ List.replicate (6 - (lg_sl ([Value.ref h0, Value.int a1, Value.int a2, Value.int a3, Value.int a4, Value.int a5])).length) Slot.unset).toArray = ls at hl ⊢
  have hl : lv_has ls 6 [(0, Value.ref h0), (1, Value.int a1), (2, Value.int a2), (3, Value.int a3), (4, Value.int a4), (5, Value.int a5)] := hl
  have hP : va_P D vwCl [(h0, Sum.inr (8, [Value.ref tp, Value.ref rd, Value.ref dr, Value.ref fa, Value.ref ly, Value.ref wy])), (tp, Sum.inr (6, [Value.ref tp1, Value.int (nI ln)])), (tp1, Sum.inl (tc, 400, Sum.inl tf))] s.heap := hP
  refine lv_aload_n hx hb dX9_feed_0 rfl (lv_at hl 0 rfl) ?_
  refine va_get (D := D) (ci := 8) (v := Value.ref tp) (C := RX9) (T := TX9) (N := 6) hx hb hts inG_X9 hown hK hP 0 rfl rfl 0 (by decide) (hts _ kw_2_67) (fun _ h9 => h9) rfl dX9_feed_1 ?_
  refine va_get (D := D) (ci := 6) (v := Value.int (nI ln)) (C := RX7) (T := TX7) (N := 2) hx hb hts inG_X7 hown hK hP 1 rfl rfl 1 (by decide) (hts _ kw_1_41) (fun _ h9 => h9) rfl dX9_feed_4 ?_
  refine lv_sipush (v := 380) hx hb dX9_feed_7 (by decide) ?_
  refine lv_icmp_le (tgt := 15) hx hb dX9_feed_10 (by decide) (fun c_1 => ?_) (fun c_1 => ?_)
  · skip
    have c_1n : ln ≤ 380 := (nI_leI (by omega) (by omega)).mp c_1
    have c_1 := Int32.not_lt.mpr c_1
    refine lv_aload_n hx hb dX9_feed_15 rfl (lv_at hl 0 rfl) ?_
    refine va_get (D := D) (ci := 8) (v := Value.ref tp) (C := RX9) (T := TX9) (N := 6) hx hb hts inG_X9 hown hK hP 0 rfl rfl 0 (by decide) (hts _ kw_2_67) (fun _ h9 => h9) rfl dX9_feed_16 ?_
    refine lv_iload_n hx hb dX9_feed_19 rfl (lv_at hl 1 rfl) ?_
    refine mc_Vv (rest := []) (wr := [(h0, Sum.inr (8, [Value.ref tp, Value.ref rd, Value.ref dr, Value.ref fa, Value.ref ly, Value.ref wy]))]) F hK hP hD hS hA (p_append l D tp tp1 tc tf ln a1 (by omega)) ⟨gk_X9_55.1, gk_X9_55.2, Nat.le_of_ble_eq_true rfl, Nat.le_of_ble_eq_true rfl⟩ [1, 2] [0] [0] ⟨rfl, rfl, rfl, rfl, by decide⟩ rfl xT_move (fun _ _ _ => trivial) 1 rfl rfl rfl hl.1 rfl (Nat.le_of_ble_eq_true rfl) dX9_feed_20 ⟨Nat.le_of_ble_eq_true rfl, Nat.le_of_ble_eq_true rfl⟩ (fun tf1_2 H locs hw hK1 hP hD hS => ?_)
    have hP : va_P D vwCl [(h0, Sum.inr (8, [Value.ref tp, Value.ref rd, Value.ref dr, Value.ref fa, Value.ref ly, Value.ref wy])), (tp, Sum.inr (6, [Value.ref tp1, Value.int (nI (ln + 4))])), (tp1, Sum.inl (tc, 400, Sum.inl tf1_2))] H := hP
    have hD : va_D A [(h0, Sum.inr (8, [Value.ref tp, Value.ref rd, Value.ref dr, Value.ref fa, Value.ref ly, Value.ref wy])), (tp, Sum.inr (6, [Value.ref tp1, Value.int (nI (ln + 4))])), (tp1, Sum.inl (tc, 400, Sum.inl tf1_2))] := hD
    have hw_4 : tf1_2 = ap4 tf ln a1 := hw
    refine lv_aload_n hx hb dX9_feed_23 rfl (lv_at hl 0 rfl) ?_
    refine va_get (D := D) (ci := 8) (v := Value.ref tp) (C := RX9) (T := TX9) (N := 6) hx hb hts inG_X9 hown hK hP 0 rfl rfl 0 (by decide) (hts _ kw_2_67) (fun _ h9 => h9) rfl dX9_feed_24 ?_
    refine lv_iload_n hx hb dX9_feed_27 rfl (lv_at hl 2 rfl) ?_
    refine mc_Vv (rest := []) (wr := [(h0, Sum.inr (8, [Value.ref tp, Value.ref rd, Value.ref dr, Value.ref fa, Value.ref ly, Value.ref wy]))]) F hK hP hD hS hA (p_append l D tp tp1 tc tf1_2 (ln + 4) a2 (by omega)) ⟨gk_X9_55.1, gk_X9_55.2, Nat.le_of_ble_eq_true rfl, Nat.le_of_ble_eq_true rfl⟩ [1, 2] [0] [0] ⟨rfl, rfl, rfl, rfl, by decide⟩ rfl xT_move (fun _ _ _ => trivial) 1 rfl rfl rfl hl.1 rfl (Nat.le_of_ble_eq_true rfl) dX9_feed_28 ⟨Nat.le_of_ble_eq_true rfl, Nat.le_of_ble_eq_true rfl⟩ (fun tf1_5 H locs hw hK1 hP hD hS => ?_)
    have hP : va_P D vwCl [(h0, Sum.inr (8, [Value.ref tp, Value.ref rd, Value.ref dr, Value.ref fa, Value.ref ly, Value.ref wy])), (tp, Sum.inr (6, [Value.ref tp1, Value.int (nI ((ln + 4) + 4))])), (tp1, Sum.inl (tc, 400, Sum.inl tf1_5))] H := hP
    have hD : va_D A [(h0, Sum.inr (8, [Value.ref tp, Value.ref rd, Value.ref dr, Value.ref fa, Value.ref ly, Value.ref wy])), (tp, Sum.inr (6, [Value.ref tp1, Value.int (nI ((ln + 4) + 4))])), (tp1, Sum.inl (tc, 400, Sum.inl tf1_5))] := hD
    have hw_7 : tf1_5 = ap4 tf1_2 (ln + 4) a2 := hw
    refine lv_aload_n hx hb dX9_feed_31 rfl (lv_at hl 0 rfl) ?_
    refine va_get (D := D) (ci := 8) (v := Value.ref tp) (C := RX9) (T := TX9) (N := 6) hx hb hts inG_X9 hown hK hP 0 rfl rfl 0 (by decide) (hts _ kw_2_67) (fun _ h9 => h9) rfl dX9_feed_32 ?_
    refine lv_iload_n hx hb dX9_feed_35 rfl (lv_at hl 3 rfl) ?_
    refine mc_Vv (rest := []) (wr := [(h0, Sum.inr (8, [Value.ref tp, Value.ref rd, Value.ref dr, Value.ref fa, Value.ref ly, Value.ref wy]))]) F hK hP hD hS hA (p_append l D tp tp1 tc tf1_5 ((ln + 4) + 4) a3 (by omega)) ⟨gk_X9_55.1, gk_X9_55.2, Nat.le_of_ble_eq_true rfl, Nat.le_of_ble_eq_true rfl⟩ [1, 2] [0] [0] ⟨rfl, rfl, rfl, rfl, by decide⟩ rfl xT_move (fun _ _ _ => trivial) 1 rfl rfl rfl hl.1 rfl (Nat.le_of_ble_eq_true rfl) dX9_feed_36 ⟨Nat.le_of_ble_eq_true rfl, Nat.le_of_ble_eq_true rfl⟩ (fun tf1_8 H locs hw hK1 hP hD hS => ?_)
    have hP : va_P D vwCl [(h0, Sum.inr (8, [Value.ref tp, Value.ref rd, Value.ref dr, Value.ref fa, Value.ref ly, Value.ref wy])), (tp, Sum.inr (6, [Value.ref tp1, Value.int (nI (((ln + 4) + 4) + 4))])), (tp1, Sum.inl (tc, 400, Sum.inl tf1_8))] H := hP
    have hD : va_D A [(h0, Sum.inr (8, [Value.ref tp, Value.ref rd, Value.ref dr, Value.ref fa, Value.ref ly, Value.ref wy])), (tp, Sum.inr (6, [Value.ref tp1, Value.int (nI (((ln + 4) + 4) + 4))])), (tp1, Sum.inl (tc, 400, Sum.inl tf1_8))] := hD
    have hw_10 : tf1_8 = ap4 tf1_5 ((ln + 4) + 4) a3 := hw
    refine lv_aload_n hx hb dX9_feed_39 rfl (lv_at hl 0 rfl) ?_
    refine va_get (D := D) (ci := 8) (v := Value.ref tp) (C := RX9) (T := TX9) (N := 6) hx hb hts inG_X9 hown hK hP 0 rfl rfl 0 (by decide) (hts _ kw_2_67) (fun _ h9 => h9) rfl dX9_feed_40 ?_
    refine lv_iload hx hb dX9_feed_43 (lv_at hl 4 rfl) ?_
    refine mc_Vv (rest := []) (wr := [(h0, Sum.inr (8, [Value.ref tp, Value.ref rd, Value.ref dr, Value.ref fa, Value.ref ly, Value.ref wy]))]) F hK hP hD hS hA (p_append l D tp tp1 tc tf1_8 (((ln + 4) + 4) + 4) a4 (by omega)) ⟨gk_X9_55.1, gk_X9_55.2, Nat.le_of_ble_eq_true rfl, Nat.le_of_ble_eq_true rfl⟩ [1, 2] [0] [0] ⟨rfl, rfl, rfl, rfl, by decide⟩ rfl xT_move (fun _ _ _ => trivial) 1 rfl rfl rfl hl.1 rfl (Nat.le_of_ble_eq_true rfl) dX9_feed_45 ⟨Nat.le_of_ble_eq_true rfl, Nat.le_of_ble_eq_true rfl⟩ (fun tf1_11 H locs hw hK1 hP hD hS => ?_)
    have hP : va_P D vwCl [(h0, Sum.inr (8, [Value.ref tp, Value.ref rd, Value.ref dr, Value.ref fa, Value.ref ly, Value.ref wy])), (tp, Sum.inr (6, [Value.ref tp1, Value.int (nI ((((ln + 4) + 4) + 4) + 4))])), (tp1, Sum.inl (tc, 400, Sum.inl tf1_11))] H := hP
    have hD : va_D A [(h0, Sum.inr (8, [Value.ref tp, Value.ref rd, Value.ref dr, Value.ref fa, Value.ref ly, Value.ref wy])), (tp, Sum.inr (6, [Value.ref tp1, Value.int (nI ((((ln + 4) + 4) + 4) + 4))])), (tp1, Sum.inl (tc, 400, Sum.inl tf1_11))] := hD
    have hw_13 : tf1_11 = ap4 tf1_8 (((ln + 4) + 4) + 4) a4 := hw
    refine lv_aload_n hx hb dX9_feed_48 rfl (lv_at hl 0 rfl) ?_
    refine va_get (D := D) (ci := 8) (v := Value.ref tp) (C := RX9) (T := TX9) (N := 6) hx hb hts inG_X9 hown hK hP 0 rfl rfl 0 (by decide) (hts _ kw_2_67) (fun _ h9 => h9) rfl dX9_feed_49 ?_
    refine lv_iload hx hb dX9_feed_52 (lv_at hl 5 rfl) ?_
    refine mc_Vv (rest := []) (wr := [(h0, Sum.inr (8, [Value.ref tp, Value.ref rd, Value.ref dr, Value.ref fa, Value.ref ly, Value.ref wy]))]) F hK hP hD hS hA (p_append l D tp tp1 tc tf1_11 ((((ln + 4) + 4) + 4) + 4) a5 (by omega)) ⟨gk_X9_55.1, gk_X9_55.2, Nat.le_of_ble_eq_true rfl, Nat.le_of_ble_eq_true rfl⟩ [1, 2] [0] [0] ⟨rfl, rfl, rfl, rfl, by decide⟩ rfl xT_move (fun _ _ _ => trivial) 1 rfl rfl rfl hl.1 rfl (Nat.le_of_ble_eq_true rfl) dX9_feed_54 ⟨Nat.le_of_ble_eq_true rfl, Nat.le_of_ble_eq_true rfl⟩ (fun tf1_14 H locs hw hK1 hP hD hS => ?_)
    have hP : va_P D vwCl [(h0, Sum.inr (8, [Value.ref tp, Value.ref rd, Value.ref dr, Value.ref fa, Value.ref ly, Value.ref wy])), (tp, Sum.inr (6, [Value.ref tp1, Value.int (nI (((((ln + 4) + 4) + 4) + 4) + 4))])), (tp1, Sum.inl (tc, 400, Sum.inl tf1_14))] H := hP
    have hD : va_D A [(h0, Sum.inr (8, [Value.ref tp, Value.ref rd, Value.ref dr, Value.ref fa, Value.ref ly, Value.ref wy])), (tp, Sum.inr (6, [Value.ref tp1, Value.int (nI (((((ln + 4) + 4) + 4) + 4) + 4))])), (tp1, Sum.inl (tc, 400, Sum.inl tf1_14))] := hD
    have hw_16 : tf1_14 = ap4 tf1_11 ((((ln + 4) + 4) + 4) + 4) a5 := hw
    refine lv_aload_n hx hb dX9_feed_57 rfl (lv_at hl 0 rfl) ?_
    refine va_get (D := D) (ci := 8) (v := Value.ref tp) (C := RX9) (T := TX9) (N := 6) hx hb hts inG_X9 hown hK hP 0 rfl rfl 0 (by decide) (hts _ kw_2_67) (fun _ h9 => h9) rfl dX9_feed_58 ?_
    refine va_get (D := D) (ci := 6) (v := Value.int (nI (((((ln + 4) + 4) + 4) + 4) + 4))) (C := RX7) (T := TX7) (N := 2) hx hb hts inG_X7 hown hK hP 1 rfl rfl 1 (by decide) (hts _ kw_1_41) (fun _ h9 => h9) rfl dX9_feed_61 ?_
    have hP9 := hP.sub (ws' := [(h0, Sum.inr (8, [Value.ref tp, Value.ref rd, Value.ref dr, Value.ref fa, Value.ref ly, Value.ref wy])), (tp, Sum.inr (6, [Value.ref tp1, Value.int (nI ((((((ln + 4) + 4) + 4) + 4) + 4)))])), (tp1, Sum.inl (tc, 400, Sum.inl tf1_14))]) [0, 1, 2] rfl
    have hD9 := hD.sub (ws' := [(h0, Sum.inr (8, [Value.ref tp, Value.ref rd, Value.ref dr, Value.ref fa, Value.ref ly, Value.ref wy])), (tp, Sum.inr (6, [Value.ref tp1, Value.int (nI ((((((ln + 4) + 4) + 4) + 4) + 4)))])), (tp1, Sum.inl (tc, 400, Sum.inl tf1_14))]) [0, 1, 2] (by decide) rfl
    have hK9 := hK.sub (tys' := []) [] rfl
    refine W.widen (k := 0) (n := 0) (by decide) (by decide) ?_
    exact W.iret (v := nI (((((ln + 4) + 4) + 4) + 4) + 4)) hx hb hr (fun t ht hW => ⟨⟨(nI (((((ln + 4) + 4) + 4) + 4) + 4)), (((((ln + 4) + 4) + 4) + 4) + 4, tf1_14), rfl, Or.inr ⟨by omega, congrArg nI (by omega), by omega, by rw [hw_16, hw_13, hw_10, hw_7, hw_4]; exact fdT_of⟩, by rw [ht]; exact hP9, va_K.moved hW.alike hK9, hD9⟩, hS.F ht⟩) hS.2.2 dX9_feed_64
  · skip
    have c_1n : 380 < ln := nb_le (by omega) (by omega) c_1
    have c_1 := Int32.not_le.mp c_1
    refine lv_iconst (v := -1) hx hb dX9_feed_13 (by decide) ?_
    have hP9 := hP.sub (ws' := [(h0, Sum.inr (8, [Value.ref tp, Value.ref rd, Value.ref dr, Value.ref fa, Value.ref ly, Value.ref wy])), (tp, Sum.inr (6, [Value.ref tp1, Value.int (nI ln)])), (tp1, Sum.inl (tc, 400, Sum.inl tf))]) [0, 1, 2] rfl
    have hD9 := hD.sub (ws' := [(h0, Sum.inr (8, [Value.ref tp, Value.ref rd, Value.ref dr, Value.ref fa, Value.ref ly, Value.ref wy])), (tp, Sum.inr (6, [Value.ref tp1, Value.int (nI ln)])), (tp1, Sum.inl (tc, 400, Sum.inl tf))]) [0, 1, 2] (by decide) rfl
    have hK9 := hK.sub (tys' := []) [] rfl
    refine W.widen (k := 0) (n := 0) (by decide) (by decide) ?_
    exact W.iret (v := (-1)) hx hb hr (fun t ht hW => ⟨⟨((-1)), (ln, tf), rfl, Or.inl ⟨by omega, rfl, rfl, rfl⟩, by rw [ht]; exact hP9, va_K.moved hW.alike hK9, hD9⟩, hS.F ht⟩) hS.2.2 dX9_feed_14
set_option maxHeartbeats 4000000 in
set_option maxRecDepth 100000 in
theorem p_customs (l : Launch) (D : va_G) (us : Nat) (en : Nat → Nat) (kk : Nat → Nat) (h0 : Nat) (tp : Nat) (rd : Nat) (dr : Nat) (fa : Nat) (ly : Nat) (wy : Nat) (tp1 : Nat) (ln : Nat) (tc : ClassId) (tf : Nat → Int32) (fk : Int32) (fp : Int32) (va : Nat) (tx : Nat) (rl : Int32) (nx : Int32) (tk : Int32) (sa : Int32) (vl : Int32) (vc : ClassId) (fv : Nat → Int32) (dr1 : Nat) (dr2 : Nat) (dr3 : Nat) (dr4 : Nat) (dsc : Int32) (dto : Int32) (ec1 : ClassId) (ef1 : Nat → Int32) (ec2 : ClassId) (ef2 : Nat → Int32) (ec3 : ClassId) (ef3 : Nat → Int32) (ec4 : ClassId) (ef4 : Nat → Int32) (cu : Nat) (rv : Nat) (bt : Nat) (bc : Nat) (ho : Int32) (fe : Int32) (cu1 : Nat) (cu2 : Nat) (cu3 : Nat) (cu4 : Nat) (sc : Int32) (to : Int32) (cc1 : ClassId) (cf1 : Nat → Int32) (cc2 : ClassId) (cf2 : Nat → Int32) (cc3 : ClassId) (cf3 : Nat → Int32) (cc4 : ClassId) (cf4 : Nat → Int32) (x : Int32) (hln : ln ≤ 400) : cI l yX9_customs (.code yX9_customs cX9_customs 3 (some .int)) ({ frames := 10, cells := 0, slots := 0, locals := 258 }) D [(tc, .int), (vc, .int), (ec1, .int), (ec2, .int), (ec3, .int), (ec4, .int), (cc1, .int), (cc2, .int), (cc3, .int), (cc4, .int)] [(h0, Sum.inr (8, [Value.ref tp, Value.ref rd, Value.ref dr, Value.ref fa, Value.ref ly, Value.ref wy])), (tp, Sum.inr (6, [Value.ref tp1, Value.int (nI ln)])), (tp1, Sum.inl (tc, 400, Sum.inl tf)), (rd, Sum.inr (2, [Value.int fk, Value.int fp, Value.ref va, Value.ref tx, Value.int rl, Value.int nx, Value.int tk, Value.int sa, Value.int vl])), (va, Sum.inl (vc, 3, Sum.inl fv)), (dr, Sum.inr (1, [Value.ref dr1, Value.ref dr2, Value.ref dr3, Value.ref dr4, Value.int dsc, Value.int dto])), (dr1, Sum.inl (ec1, 8, Sum.inl ef1)), (dr2, Sum.inl (ec2, 4, Sum.inl ef2)), (dr3, Sum.inl (ec3, 4, Sum.inl ef3)), (dr4, Sum.inl (ec4, 4, Sum.inl ef4)), (fa, Sum.inr (3, [Value.ref cu, Value.ref rv, Value.ref bt, Value.int (nI bc), Value.int ho, Value.int fe])), (cu, Sum.inr (1, [Value.ref cu1, Value.ref cu2, Value.ref cu3, Value.ref cu4, Value.int sc, Value.int to])), (cu1, Sum.inl (cc1, 8, Sum.inl cf1)), (cu2, Sum.inl (cc2, 4, Sum.inl cf2)), (cu3, Sum.inl (cc3, 4, Sum.inl cf3)), (cu4, Sum.inl (cc4, 4, Sum.inl cf4))] (xC us en kk) [Value.ref h0, Value.int x] (S := Nat × Int32 × Int32 × Nat × Int32 × Int32 × Int32 × Int32 × Int32 × (Nat → Int32) × Int32 × Int32 × (Nat → Int32) × (Nat → Int32) × (Nat → Int32) × (Nat → Int32) × Int32 × Int32 × (Nat → Int32) × (Nat → Int32) × (Nat → Int32) × (Nat → Int32)) (fun r u => match u with | (ln1, fk1, fp1, tx1, rl1, nx1, tk1, sa1, vl1, fv1, dsc1, dto1, ef11, ef21, ef31, ef41, sc1, to1, cf11, cf21, cf31, cf41) => ln1 = (if x < 0 ∨ nI ln < x then ln else 0) ∧ CuR tf ln x r fk fp fk1 fp1 ∧ ∀ P, Kc P cf1 cf2 cf3 cf4 sc → Kc (cuP tf ln x P) cf11 cf21 cf31 cf41 sc1) (fun u => match u with | (ln1, fk1, fp1, tx1, rl1, nx1, tk1, sa1, vl1, fv1, dsc1, dto1, ef11, ef21, ef31, ef41, sc1, to1, cf11, cf21, cf31, cf41) => []) (fun u => match u with | (ln1, fk1, fp1, tx1, rl1, nx1, tk1, sa1, vl1, fv1, dsc1, dto1, ef11, ef21, ef31, ef41, sc1, to1, cf11, cf21, cf31, cf41) => [(h0, Sum.inr (8, [Value.ref tp, Value.ref rd, Value.ref dr, Value.ref fa, Value.ref ly, Value.ref wy])), (tp, Sum.inr (6, [Value.ref tp1, Value.int (nI ln1)])), (tp1, Sum.inl (tc, 400, Sum.inl tf)), (rd, Sum.inr (2, [Value.int fk1, Value.int fp1, Value.ref va, Value.ref tx1, Value.int rl1, Value.int nx1, Value.int tk1, Value.int sa1, Value.int vl1])), (va, Sum.inl (vc, 3, Sum.inl fv1)), (dr, Sum.inr (1, [Value.ref dr1, Value.ref dr2, Value.ref dr3, Value.ref dr4, Value.int dsc1, Value.int dto1])), (dr1, Sum.inl (ec1, 8, Sum.inl ef11)), (dr2, Sum.inl (ec2, 4, Sum.inl ef21)), (dr3, Sum.inl (ec3, 4, Sum.inl ef31)), (dr4, Sum.inl (ec4, 4, Sum.inl ef41)), (fa, Sum.inr (3, [Value.ref cu, Value.ref rv, Value.ref bt, Value.int (nI bc), Value.int ho, Value.int fe])), (cu, Sum.inr (1, [Value.ref cu1, Value.ref cu2, Value.ref cu3, Value.ref cu4, Value.int sc1, Value.int to1])), (cu1, Sum.inl (cc1, 8, Sum.inl cf11)), (cu2, Sum.inl (cc2, 4, Sum.inl cf21)), (cu3, Sum.inl (cc3, 4, Sum.inl cf31)), (cu4, Sum.inl (cc4, 4, Sum.inl cf41))]) := by
  intro sz
  refine Met.ofW (cc := cX9_customs) (maxL := 3) (ret := (some .int)) (by decide) rfl ?_
  intro p e s m args below meth c s₁ B hml hv
  obtain ⟨rfl, hsz, hP, hK, hD0, hX⟩ := hv
  have hx := B.exec
  have hb := B.bytes
  have hr := B.returns
  have hts0 := atoms_spec (ws := .code yX9_customs cX9_customs 3 (some .int) :: gw) B.pre
  have hts := fun (w : Cond) (h : w ∈ gw) => hts0 w (List.mem_cons_of_mem _ h)
  have hown : s.vm.findClass RX9 = some m.cls := findClass_of_methodNamed B.named
  have hlocks := B.notSynchronized
  have F : mFix p s m _ c cX9_customs 3 RX9 := ⟨hx, hb, hml, hown, hts⟩
  subst hsz
  have hD := hD0.self (sz := s.heap.size)
  generalize hAe : va_A [(h0, Sum.inr (8, [Value.ref tp, Value.ref rd, Value.ref dr, Value.ref fa, Value.ref ly, Value.ref wy])), (tp, Sum.inr (6, [Value.ref tp1, Value.int (nI ln)])), (tp1, Sum.inl (tc, 400, Sum.inl tf)), (rd, Sum.inr (2, [Value.int fk, Value.int fp, Value.ref va, Value.ref tx, Value.int rl, Value.int nx, Value.int tk, Value.int sa, Value.int vl])), (va, Sum.inl (vc, 3, Sum.inl fv)), (dr, Sum.inr (1, [Value.ref dr1, Value.ref dr2, Value.ref dr3, Value.ref dr4, Value.int dsc, Value.int dto])), (dr1, Sum.inl (ec1, 8, Sum.inl ef1)), (dr2, Sum.inl (ec2, 4, Sum.inl ef2)), (dr3, Sum.inl (ec3, 4, Sum.inl ef3)), (dr4, Sum.inl (ec4, 4, Sum.inl ef4)), (fa, Sum.inr (3, [Value.ref cu, Value.ref rv, Value.ref bt, Value.int (nI bc), Value.int ho, Value.int fe])), (cu, Sum.inr (1, [Value.ref cu1, Value.ref cu2, Value.ref cu3, Value.ref cu4, Value.int sc, Value.int to])), (cu1, Sum.inl (cc1, 8, Sum.inl cf1)), (cu2, Sum.inl (cc2, 4, Sum.inl cf2)), (cu3, Sum.inl (cc3, 4, Sum.inl cf3)), (cu4, Sum.inl (cc4, 4, Sum.inl cf4))] s.heap.size = A at hD hX ⊢
  have hA : ∀ q : Nat, s.heap.size ≤ q → A q := fun q h => by rw [← hAe]; exact Or.inr h
  have hS : va_S A s.heap s.heap [] := va_S.rf
  have hl := lv_entry ([Value.ref h0, Value.int x]) (n := 3) (Nat.le_of_ble_eq_true rfl)
  rw [lg_entry_eq]
  generalize (lg_sl ([Value.ref h0, Value.int x]) ++ List.replicate (3 - (lg_sl ([Value.ref h0, Value.int x])).length) Slot.unset).toArray = ls at hl ⊢
  have hl : lv_has ls 3 [(0, Value.ref h0), (1, Value.int x)] := hl
  have hP : va_P D vwCl [(h0, Sum.inr (8, [Value.ref tp, Value.ref rd, Value.ref dr, Value.ref fa, Value.ref ly, Value.ref wy])), (tp, Sum.inr (6, [Value.ref tp1, Value.int (nI ln)])), (tp1, Sum.inl (tc, 400, Sum.inl tf)), (rd, Sum.inr (2, [Value.int fk, Value.int fp, Value.ref va, Value.ref tx, Value.int rl, Value.int nx, Value.int tk, Value.int sa, Value.int vl])), (va, Sum.inl (vc, 3, Sum.inl fv)), (dr, Sum.inr (1, [Value.ref dr1, Value.ref dr2, Value.ref dr3, Value.ref dr4, Value.int dsc, Value.int dto])), (dr1, Sum.inl (ec1, 8, Sum.inl ef1)), (dr2, Sum.inl (ec2, 4, Sum.inl ef2)), (dr3, Sum.inl (ec3, 4, Sum.inl ef3)), (dr4, Sum.inl (ec4, 4, Sum.inl ef4)), (fa, Sum.inr (3, [Value.ref cu, Value.ref rv, Value.ref bt, Value.int (nI bc), Value.int ho, Value.int fe])), (cu, Sum.inr (1, [Value.ref cu1, Value.ref cu2, Value.ref cu3, Value.ref cu4, Value.int sc, Value.int to])), (cu1, Sum.inl (cc1, 8, Sum.inl cf1)), (cu2, Sum.inl (cc2, 4, Sum.inl cf2)), (cu3, Sum.inl (cc3, 4, Sum.inl cf3)), (cu4, Sum.inl (cc4, 4, Sum.inl cf4))] s.heap := hP
  refine lv_iload_n hx hb dX9_customs_0 rfl (lv_at hl 1 rfl) ?_
  refine lv_if_lt (tgt := 15) hx hb dX9_customs_1 (by decide) (fun c_1 => ?_) (fun c_1 => ?_)
  · skip
    refine lv_bipush (v := -2) hx hb dX9_customs_15 (by decide) ?_
    have hP9 := hP.sub (ws' := [(h0, Sum.inr (8, [Value.ref tp, Value.ref rd, Value.ref dr, Value.ref fa, Value.ref ly, Value.ref wy])), (tp, Sum.inr (6, [Value.ref tp1, Value.int (nI ln)])), (tp1, Sum.inl (tc, 400, Sum.inl tf)), (rd, Sum.inr (2, [Value.int fk, Value.int fp, Value.ref va, Value.ref tx, Value.int rl, Value.int nx, Value.int tk, Value.int sa, Value.int vl])), (va, Sum.inl (vc, 3, Sum.inl fv)), (dr, Sum.inr (1, [Value.ref dr1, Value.ref dr2, Value.ref dr3, Value.ref dr4, Value.int dsc, Value.int dto])), (dr1, Sum.inl (ec1, 8, Sum.inl ef1)), (dr2, Sum.inl (ec2, 4, Sum.inl ef2)), (dr3, Sum.inl (ec3, 4, Sum.inl ef3)), (dr4, Sum.inl (ec4, 4, Sum.inl ef4)), (fa, Sum.inr (3, [Value.ref cu, Value.ref rv, Value.ref bt, Value.int (nI bc), Value.int ho, Value.int fe])), (cu, Sum.inr (1, [Value.ref cu1, Value.ref cu2, Value.ref cu3, Value.ref cu4, Value.int sc, Value.int to])), (cu1, Sum.inl (cc1, 8, Sum.inl cf1)), (cu2, Sum.inl (cc2, 4, Sum.inl cf2)), (cu3, Sum.inl (cc3, 4, Sum.inl cf3)), (cu4, Sum.inl (cc4, 4, Sum.inl cf4))]) [0, 1, 2, 3, 4, 5, 6, 7, 8, 9, 10, 11, 12, 13, 14, 15] rfl
    have hD9 := hD.sub (ws' := [(h0, Sum.inr (8, [Value.ref tp, Value.ref rd, Value.ref dr, Value.ref fa, Value.ref ly, Value.ref wy])), (tp, Sum.inr (6, [Value.ref tp1, Value.int (nI ln)])), (tp1, Sum.inl (tc, 400, Sum.inl tf)), (rd, Sum.inr (2, [Value.int fk, Value.int fp, Value.ref va, Value.ref tx, Value.int rl, Value.int nx, Value.int tk, Value.int sa, Value.int vl])), (va, Sum.inl (vc, 3, Sum.inl fv)), (dr, Sum.inr (1, [Value.ref dr1, Value.ref dr2, Value.ref dr3, Value.ref dr4, Value.int dsc, Value.int dto])), (dr1, Sum.inl (ec1, 8, Sum.inl ef1)), (dr2, Sum.inl (ec2, 4, Sum.inl ef2)), (dr3, Sum.inl (ec3, 4, Sum.inl ef3)), (dr4, Sum.inl (ec4, 4, Sum.inl ef4)), (fa, Sum.inr (3, [Value.ref cu, Value.ref rv, Value.ref bt, Value.int (nI bc), Value.int ho, Value.int fe])), (cu, Sum.inr (1, [Value.ref cu1, Value.ref cu2, Value.ref cu3, Value.ref cu4, Value.int sc, Value.int to])), (cu1, Sum.inl (cc1, 8, Sum.inl cf1)), (cu2, Sum.inl (cc2, 4, Sum.inl cf2)), (cu3, Sum.inl (cc3, 4, Sum.inl cf3)), (cu4, Sum.inl (cc4, 4, Sum.inl cf4))]) [0, 1, 2, 3, 4, 5, 6, 7, 8, 9, 10, 11, 12, 13, 14, 15] (by decide) rfl
    have hK9 := hK.sub (tys' := []) [] rfl
    refine W.widen (k := 0) (n := 0) (by decide) (by decide) ?_
    exact W.iret (v := (-2)) hx hb hr (fun t ht hW => ⟨⟨((-2)), (ln, fk, fp, tx, rl, nx, tk, sa, vl, fv, dsc, dto, ef1, ef2, ef3, ef4, sc, to, cf1, cf2, cf3, cf4), rfl, ⟨(if_pos (Or.inl c_1)).symm, Or.inl ⟨Or.inl c_1, rfl, rfl, rfl⟩, fun P hP9 => by rw [cuP_n (Or.inl c_1)]; exact hP9⟩, by rw [ht]; exact hP9, va_K.moved hW.alike hK9, hD9⟩, hS.F ht⟩) hS.2.2 dX9_customs_17
  · skip
    refine lv_iload_n hx hb dX9_customs_4 rfl (lv_at hl 1 rfl) ?_
    refine lv_aload_n hx hb dX9_customs_5 rfl (lv_at hl 0 rfl) ?_
    refine va_get (D := D) (ci := 8) (v := Value.ref tp) (C := RX9) (T := TX9) (N := 6) hx hb hts inG_X9 hown hK hP 0 rfl rfl 0 (by decide) (hts _ kw_2_67) (fun _ h9 => h9) rfl dX9_customs_6 ?_
    refine va_get (D := D) (ci := 6) (v := Value.int (nI ln)) (C := RX7) (T := TX7) (N := 2) hx hb hts inG_X7 hown hK hP 1 rfl rfl 1 (by decide) (hts _ kw_1_41) (fun _ h9 => h9) rfl dX9_customs_9 ?_
    refine lv_icmp_le (tgt := 18) hx hb dX9_customs_12 (by decide) (fun c_2 => ?_) (fun c_2 => ?_)
    · skip
      have c_2 := Int32.not_lt.mpr c_2
      have hxn : ¬ (x < 0 ∨ nI ln < x) := fun q => q.elim c_1 c_2
      obtain ⟨nq, hnq, enq⟩ := nI_of2 (M := nI ln) (n := ln) (nI_toInt (by omega)) c_1 (Int32.not_lt.mp c_2)
      subst enq
      have hl : lv_has ls 3 [(0, Value.ref h0), (1, Value.int (nI nq))] := hl
      refine lv_aload_n hx hb dX9_customs_18 rfl (lv_at hl 0 rfl) ?_
      refine va_get (D := D) (ci := 8) (v := Value.ref rd) (C := RX9) (T := TX9) (N := 6) hx hb hts inG_X9 hown hK hP 0 rfl rfl 1 (by decide) (hts _ kw_2_68) (fun _ h9 => h9) rfl dX9_customs_19 ?_
      refine lv_aload_n hx hb dX9_customs_22 rfl (lv_at hl 0 rfl) ?_
      refine va_get (D := D) (ci := 8) (v := Value.ref tp) (C := RX9) (T := TX9) (N := 6) hx hb hts inG_X9 hown hK hP 0 rfl rfl 0 (by decide) (hts _ kw_2_67) (fun _ h9 => h9) rfl dX9_customs_23 ?_
      refine va_get (D := D) (ci := 6) (v := Value.ref tp1) (C := RX7) (T := TX7) (N := 2) hx hb hts inG_X7 hown hK hP 1 rfl rfl 0 (by decide) (hts _ kw_1_39) (fun _ h9 => h9) rfl dX9_customs_26 ?_
      refine lv_iload_n hx hb dX9_customs_29 rfl (lv_at hl 1 rfl) ?_
      refine lv_aload_n hx hb dX9_customs_30 rfl (lv_at hl 0 rfl) ?_
      refine va_get (D := D) (ci := 8) (v := Value.ref dr) (C := RX9) (T := TX9) (N := 6) hx hb hts inG_X9 hown hK hP 0 rfl rfl 2 (by decide) (hts _ kw_2_69) (fun _ h9 => h9) rfl dX9_customs_31 ?_
      refine mc_Vi (rest := []) (wr := [(h0, Sum.inr (8, [Value.ref tp, Value.ref rd, Value.ref dr, Value.ref fa, Value.ref ly, Value.ref wy])), (tp, Sum.inr (6, [Value.ref tp1, Value.int (nI ln)])), (fa, Sum.inr (3, [Value.ref cu, Value.ref rv, Value.ref bt, Value.int (nI bc), Value.int ho, Value.int fe])), (cu, Sum.inr (1, [Value.ref cu1, Value.ref cu2, Value.ref cu3, Value.ref cu4, Value.int sc, Value.int to])), (cu1, Sum.inl (cc1, 8, Sum.inl cf1)), (cu2, Sum.inl (cc2, 4, Sum.inl cf2)), (cu3, Sum.inl (cc3, 4, Sum.inl cf3)), (cu4, Sum.inl (cc4, 4, Sum.inl cf4))]) F hK hP hD hS hA (p_read l D us en kk rd va tp1 tx dr dr1 dr2 dr3 dr4 tc vc ec1 ec2 ec3 ec4 tf nq fk fp rl nx tk sa vl dsc dto fv ef1 ef2 ef3 ef4 (by omega)) ⟨gk_X9_63.1, gk_X9_63.2, Nat.le_of_ble_eq_true rfl, Nat.le_of_ble_eq_true rfl⟩ [3, 4, 2, 5, 6, 7, 8, 9] [0, 1, 10, 11, 12, 13, 14, 15] [1, 0, 2, 3, 4, 5] ⟨rfl, rfl, rfl, rfl, by decide⟩ rfl (xC_move us en kk) (xC_use hX hS (va_free hD hS hA [3, 4, 2, 5, 6, 7, 8, 9] rfl)) 3 rfl rfl rfl hl.1 rfl (Nat.le_of_ble_eq_true rfl) dX9_customs_34 ⟨Nat.le_of_ble_eq_true rfl, Nat.le_of_ble_eq_true rfl⟩ (fun r_16 u H locs hw hK1 hP hD hS => ?_)
      obtain ⟨fk1_3, fp1_4, nx1_5, tk1_6, st1_7, vl1_8, sc1_9, to1_10, fv1_11, d1_12, d2_13, d3_14, d4_15⟩ := u
      have hP : va_P D vwCl [(h0, Sum.inr (8, [Value.ref tp, Value.ref rd, Value.ref dr, Value.ref fa, Value.ref ly, Value.ref wy])), (tp, Sum.inr (6, [Value.ref tp1, Value.int (nI ln)])), (fa, Sum.inr (3, [Value.ref cu, Value.ref rv, Value.ref bt, Value.int (nI bc), Value.int ho, Value.int fe])), (cu, Sum.inr (1, [Value.ref cu1, Value.ref cu2, Value.ref cu3, Value.ref cu4, Value.int sc, Value.int to])), (cu1, Sum.inl (cc1, 8, Sum.inl cf1)), (cu2, Sum.inl (cc2, 4, Sum.inl cf2)), (cu3, Sum.inl (cc3, 4, Sum.inl cf3)), (cu4, Sum.inl (cc4, 4, Sum.inl cf4)), (rd, Sum.inr (2, [Value.int fk1_3, Value.int fp1_4, Value.ref va, Value.ref tp1, Value.int (nI nq), Value.int nx1_5, Value.int tk1_6, Value.int st1_7, Value.int vl1_8])), (va, Sum.inl (vc, 3, Sum.inl fv1_11)), (tp1, Sum.inl (tc, 400, Sum.inl tf)), (dr, Sum.inr (1, [Value.ref dr1, Value.ref dr2, Value.ref dr3, Value.ref dr4, Value.int (nI sc1_9), Value.int to1_10])), (dr1, Sum.inl (ec1, 8, Sum.inl d1_12)), (dr2, Sum.inl (ec2, 4, Sum.inl d2_13)), (dr3, Sum.inl (ec3, 4, Sum.inl d3_14)), (dr4, Sum.inl (ec4, 4, Sum.inl d4_15))] H := hP
      have hD : va_D A [(h0, Sum.inr (8, [Value.ref tp, Value.ref rd, Value.ref dr, Value.ref fa, Value.ref ly, Value.ref wy])), (tp, Sum.inr (6, [Value.ref tp1, Value.int (nI ln)])), (fa, Sum.inr (3, [Value.ref cu, Value.ref rv, Value.ref bt, Value.int (nI bc), Value.int ho, Value.int fe])), (cu, Sum.inr (1, [Value.ref cu1, Value.ref cu2, Value.ref cu3, Value.ref cu4, Value.int sc, Value.int to])), (cu1, Sum.inl (cc1, 8, Sum.inl cf1)), (cu2, Sum.inl (cc2, 4, Sum.inl cf2)), (cu3, Sum.inl (cc3, 4, Sum.inl cf3)), (cu4, Sum.inl (cc4, 4, Sum.inl cf4)), (rd, Sum.inr (2, [Value.int fk1_3, Value.int fp1_4, Value.ref va, Value.ref tp1, Value.int (nI nq), Value.int nx1_5, Value.int tk1_6, Value.int st1_7, Value.int vl1_8])), (va, Sum.inl (vc, 3, Sum.inl fv1_11)), (tp1, Sum.inl (tc, 400, Sum.inl tf)), (dr, Sum.inr (1, [Value.ref dr1, Value.ref dr2, Value.ref dr3, Value.ref dr4, Value.int (nI sc1_9), Value.int to1_10])), (dr1, Sum.inl (ec1, 8, Sum.inl d1_12)), (dr2, Sum.inl (ec2, 4, Sum.inl d2_13)), (dr3, Sum.inl (ec3, 4, Sum.inl d3_14)), (dr4, Sum.inl (ec4, 4, Sum.inl d4_15))] := hD
      have hw_17 : ((parF tf nq (nq + 1) 0 0 PSt0).1 = 0 ∧ r_16 = nI (parF tf nq (nq + 1) 0 0 PSt0).2.2.1 ∧ (parF tf nq (nq + 1) 0 0 PSt0).2.2.1 ≤ 400 ∧ fk1_3 = 0 ∧ fp1_4 = (-1) ∧ CR (parF tf nq (nq + 1) 0 0 PSt0).2.2.2 d1_12 d2_13 d3_14 d4_15 sc1_9 to1_10) ∨ (¬ (parF tf nq (nq + 1) 0 0 PSt0).1 = 0 ∧ r_16 = (-1) ∧ fk1_3 = nI (parF tf nq (nq + 1) 0 0 PSt0).1 ∧ fp1_4 = nI (parF tf nq (nq + 1) 0 0 PSt0).2.1) := hw
      rcases hw_17 with ⟨hq0, hq1, hq2, hq3, hq4, hq5⟩ | ⟨hq0, hq1, hq2, hq3⟩
      · skip
        generalize hRg : (parF tf nq (nq + 1) 0 0 PSt0).2.2.1 = rn at hq1 hq2
        subst hq1
        refine lv_istore_n (lv' := [(2, Value.int (nI rn)), (0, Value.ref h0), (1, Value.int (nI nq))]) hx hb dX9_customs_37 rfl hl (by decide) rfl (fun ls hl => ?_)
        refine lv_aload_n hx hb dX9_customs_38 rfl (lv_at hl 1 rfl) ?_
        refine va_get (D := D) (ci := 8) (v := Value.ref tp) (C := RX9) (T := TX9) (N := 6) hx hb hts inG_X9 hown hK hP 0 rfl rfl 0 (by decide) (hts _ kw_2_67) (fun _ h9 => h9) rfl dX9_customs_39 ?_
        refine lv_iconst (v := 0) hx hb dX9_customs_42 (by decide) ?_
        refine va_put (D := D) (ci := 6) (v := Value.int 0) (ty := .int) (C := RX7) (T := TX7) (N := 2) hx hb hts inG_X7 tyX7 tyX7_ok nmX7 hown hK hP hD hS 1 rfl rfl 1 (by decide) (hts _ kw_1_41) (fun _ h9 => h9) rfl (by decide +kernel) rfl rfl (Nat.le_of_ble_eq_true rfl) dX9_customs_43 (fun H locs hP hD hS => ?_)
        have hP : va_P D vwCl [(h0, Sum.inr (8, [Value.ref tp, Value.ref rd, Value.ref dr, Value.ref fa, Value.ref ly, Value.ref wy])), (tp, Sum.inr (6, [Value.ref tp1, Value.int 0])), (fa, Sum.inr (3, [Value.ref cu, Value.ref rv, Value.ref bt, Value.int (nI bc), Value.int ho, Value.int fe])), (cu, Sum.inr (1, [Value.ref cu1, Value.ref cu2, Value.ref cu3, Value.ref cu4, Value.int sc, Value.int to])), (cu1, Sum.inl (cc1, 8, Sum.inl cf1)), (cu2, Sum.inl (cc2, 4, Sum.inl cf2)), (cu3, Sum.inl (cc3, 4, Sum.inl cf3)), (cu4, Sum.inl (cc4, 4, Sum.inl cf4)), (rd, Sum.inr (2, [Value.int fk1_3, Value.int fp1_4, Value.ref va, Value.ref tp1, Value.int (nI nq), Value.int nx1_5, Value.int tk1_6, Value.int st1_7, Value.int vl1_8])), (va, Sum.inl (vc, 3, Sum.inl fv1_11)), (tp1, Sum.inl (tc, 400, Sum.inl tf)), (dr, Sum.inr (1, [Value.ref dr1, Value.ref dr2, Value.ref dr3, Value.ref dr4, Value.int (nI sc1_9), Value.int to1_10])), (dr1, Sum.inl (ec1, 8, Sum.inl d1_12)), (dr2, Sum.inl (ec2, 4, Sum.inl d2_13)), (dr3, Sum.inl (ec3, 4, Sum.inl d3_14)), (dr4, Sum.inl (ec4, 4, Sum.inl d4_15))] H := hP
        have hD : va_D A [(h0, Sum.inr (8, [Value.ref tp, Value.ref rd, Value.ref dr, Value.ref fa, Value.ref ly, Value.ref wy])), (tp, Sum.inr (6, [Value.ref tp1, Value.int 0])), (fa, Sum.inr (3, [Value.ref cu, Value.ref rv, Value.ref bt, Value.int (nI bc), Value.int ho, Value.int fe])), (cu, Sum.inr (1, [Value.ref cu1, Value.ref cu2, Value.ref cu3, Value.ref cu4, Value.int sc, Value.int to])), (cu1, Sum.inl (cc1, 8, Sum.inl cf1)), (cu2, Sum.inl (cc2, 4, Sum.inl cf2)), (cu3, Sum.inl (cc3, 4, Sum.inl cf3)), (cu4, Sum.inl (cc4, 4, Sum.inl cf4)), (rd, Sum.inr (2, [Value.int fk1_3, Value.int fp1_4, Value.ref va, Value.ref tp1, Value.int (nI nq), Value.int nx1_5, Value.int tk1_6, Value.int st1_7, Value.int vl1_8])), (va, Sum.inl (vc, 3, Sum.inl fv1_11)), (tp1, Sum.inl (tc, 400, Sum.inl tf)), (dr, Sum.inr (1, [Value.ref dr1, Value.ref dr2, Value.ref dr3, Value.ref dr4, Value.int (nI sc1_9), Value.int to1_10])), (dr1, Sum.inl (ec1, 8, Sum.inl d1_12)), (dr2, Sum.inl (ec2, 4, Sum.inl d2_13)), (dr3, Sum.inl (ec3, 4, Sum.inl d3_14)), (dr4, Sum.inl (ec4, 4, Sum.inl d4_15))] := hD
        refine lv_iload_n hx hb dX9_customs_46 rfl (lv_at hl 0 rfl) ?_
        refine lv_iconst (v := -1) hx hb dX9_customs_47 (by decide) ?_
        refine lv_icmp_eq (tgt := 65) hx hb dX9_customs_48 (by decide) (fun c_18 => absurd c_18 (nI_nm1 (by omega))) (fun c_18 => ?_)
        refine lv_aload_n hx hb dX9_customs_51 rfl (lv_at hl 1 rfl) ?_
        refine va_get (D := D) (ci := 8) (v := Value.ref fa) (C := RX9) (T := TX9) (N := 6) hx hb hts inG_X9 hown hK hP 0 rfl rfl 3 (by decide) (hts _ kw_2_70) (fun _ h9 => h9) rfl dX9_customs_52 ?_
        refine va_get (D := D) (ci := 3) (v := Value.ref cu) (C := RX3) (T := TX3) (N := 6) hx hb hts inG_X3 hown hK hP 2 rfl rfl 0 (by decide) (hts _ kw_1_218) (fun _ h9 => h9) rfl dX9_customs_55 ?_
        refine lv_aload_n hx hb dX9_customs_58 rfl (lv_at hl 1 rfl) ?_
        refine va_get (D := D) (ci := 8) (v := Value.ref dr) (C := RX9) (T := TX9) (N := 6) hx hb hts inG_X9 hown hK hP 0 rfl rfl 2 (by decide) (hts _ kw_2_69) (fun _ h9 => h9) rfl dX9_customs_59 ?_
        refine mc_Vv (rest := []) (wr := [(h0, Sum.inr (8, [Value.ref tp, Value.ref rd, Value.ref dr, Value.ref fa, Value.ref ly, Value.ref wy])), (tp, Sum.inr (6, [Value.ref tp1, Value.int 0])), (fa, Sum.inr (3, [Value.ref cu, Value.ref rv, Value.ref bt, Value.int (nI bc), Value.int ho, Value.int fe])), (rd, Sum.inr (2, [Value.int fk1_3, Value.int fp1_4, Value.ref va, Value.ref tp1, Value.int (nI nq), Value.int nx1_5, Value.int tk1_6, Value.int st1_7, Value.int vl1_8])), (va, Sum.inl (vc, 3, Sum.inl fv1_11)), (tp1, Sum.inl (tc, 400, Sum.inl tf))]) F hK hP hD hS hA (c_copyFrom l D us cu cu1 cu2 cu3 cu4 dr dr1 dr2 dr3 dr4 cc1 cc2 cc3 cc4 ec1 ec2 ec3 ec4 cf1 cf2 cf3 cf4 d1_12 d2_13 d3_14 d4_15 sc to (nI sc1_9) to1_10 ) ⟨gk_X9_70.1, gk_X9_70.2, Nat.le_of_ble_eq_true rfl, Nat.le_of_ble_eq_true rfl⟩ [3, 4, 5, 6, 7, 11, 12, 13, 14, 15] [0, 1, 2, 8, 9, 10] [6, 7, 8, 9, 2, 3, 4, 5] ⟨rfl, rfl, rfl, rfl, by decide⟩ rfl (xU_move us) (xU_use hX.1 hS (va_free hD hS hA [3, 4, 5, 6, 7, 11, 12, 13, 14, 15] rfl)) 3 rfl rfl rfl hl.1 rfl (Nat.le_of_ble_eq_true rfl) dX9_customs_62 ⟨Nat.le_of_ble_eq_true rfl, Nat.le_of_ble_eq_true rfl⟩ (fun _ H locs hw hK1 hP hD hS => ?_)
        have hP : va_P D vwCl [(h0, Sum.inr (8, [Value.ref tp, Value.ref rd, Value.ref dr, Value.ref fa, Value.ref ly, Value.ref wy])), (tp, Sum.inr (6, [Value.ref tp1, Value.int 0])), (fa, Sum.inr (3, [Value.ref cu, Value.ref rv, Value.ref bt, Value.int (nI bc), Value.int ho, Value.int fe])), (rd, Sum.inr (2, [Value.int fk1_3, Value.int fp1_4, Value.ref va, Value.ref tp1, Value.int (nI nq), Value.int nx1_5, Value.int tk1_6, Value.int st1_7, Value.int vl1_8])), (va, Sum.inl (vc, 3, Sum.inl fv1_11)), (tp1, Sum.inl (tc, 400, Sum.inl tf)), (cu, Sum.inr (1, [Value.ref cu1, Value.ref cu2, Value.ref cu3, Value.ref cu4, Value.int (nI sc1_9), Value.int to1_10])), (cu1, Sum.inl (cc1, 8, Sum.inl d1_12)), (cu2, Sum.inl (cc2, 4, Sum.inl d2_13)), (cu3, Sum.inl (cc3, 4, Sum.inl d3_14)), (cu4, Sum.inl (cc4, 4, Sum.inl d4_15)), (dr, Sum.inr (1, [Value.ref dr1, Value.ref dr2, Value.ref dr3, Value.ref dr4, Value.int (nI sc1_9), Value.int to1_10])), (dr1, Sum.inl (ec1, 8, Sum.inl d1_12)), (dr2, Sum.inl (ec2, 4, Sum.inl d2_13)), (dr3, Sum.inl (ec3, 4, Sum.inl d3_14)), (dr4, Sum.inl (ec4, 4, Sum.inl d4_15))] H := hP
        have hD : va_D A [(h0, Sum.inr (8, [Value.ref tp, Value.ref rd, Value.ref dr, Value.ref fa, Value.ref ly, Value.ref wy])), (tp, Sum.inr (6, [Value.ref tp1, Value.int 0])), (fa, Sum.inr (3, [Value.ref cu, Value.ref rv, Value.ref bt, Value.int (nI bc), Value.int ho, Value.int fe])), (rd, Sum.inr (2, [Value.int fk1_3, Value.int fp1_4, Value.ref va, Value.ref tp1, Value.int (nI nq), Value.int nx1_5, Value.int tk1_6, Value.int st1_7, Value.int vl1_8])), (va, Sum.inl (vc, 3, Sum.inl fv1_11)), (tp1, Sum.inl (tc, 400, Sum.inl tf)), (cu, Sum.inr (1, [Value.ref cu1, Value.ref cu2, Value.ref cu3, Value.ref cu4, Value.int (nI sc1_9), Value.int to1_10])), (cu1, Sum.inl (cc1, 8, Sum.inl d1_12)), (cu2, Sum.inl (cc2, 4, Sum.inl d2_13)), (cu3, Sum.inl (cc3, 4, Sum.inl d3_14)), (cu4, Sum.inl (cc4, 4, Sum.inl d4_15)), (dr, Sum.inr (1, [Value.ref dr1, Value.ref dr2, Value.ref dr3, Value.ref dr4, Value.int (nI sc1_9), Value.int to1_10])), (dr1, Sum.inl (ec1, 8, Sum.inl d1_12)), (dr2, Sum.inl (ec2, 4, Sum.inl d2_13)), (dr3, Sum.inl (ec3, 4, Sum.inl d3_14)), (dr4, Sum.inl (ec4, 4, Sum.inl d4_15))] := hD
        refine lv_iload_n hx hb dX9_customs_65 rfl (lv_at hl 0 rfl) ?_
        have hP9 := hP.sub (ws' := [(h0, Sum.inr (8, [Value.ref tp, Value.ref rd, Value.ref dr, Value.ref fa, Value.ref ly, Value.ref wy])), (tp, Sum.inr (6, [Value.ref tp1, Value.int 0])), (tp1, Sum.inl (tc, 400, Sum.inl tf)), (rd, Sum.inr (2, [Value.int fk1_3, Value.int fp1_4, Value.ref va, Value.ref tp1, Value.int (nI nq), Value.int nx1_5, Value.int tk1_6, Value.int st1_7, Value.int vl1_8])), (va, Sum.inl (vc, 3, Sum.inl fv1_11)), (dr, Sum.inr (1, [Value.ref dr1, Value.ref dr2, Value.ref dr3, Value.ref dr4, Value.int (nI sc1_9), Value.int to1_10])), (dr1, Sum.inl (ec1, 8, Sum.inl d1_12)), (dr2, Sum.inl (ec2, 4, Sum.inl d2_13)), (dr3, Sum.inl (ec3, 4, Sum.inl d3_14)), (dr4, Sum.inl (ec4, 4, Sum.inl d4_15)), (fa, Sum.inr (3, [Value.ref cu, Value.ref rv, Value.ref bt, Value.int (nI bc), Value.int ho, Value.int fe])), (cu, Sum.inr (1, [Value.ref cu1, Value.ref cu2, Value.ref cu3, Value.ref cu4, Value.int (nI sc1_9), Value.int to1_10])), (cu1, Sum.inl (cc1, 8, Sum.inl d1_12)), (cu2, Sum.inl (cc2, 4, Sum.inl d2_13)), (cu3, Sum.inl (cc3, 4, Sum.inl d3_14)), (cu4, Sum.inl (cc4, 4, Sum.inl d4_15))]) [0, 1, 5, 3, 4, 11, 12, 13, 14, 15, 2, 6, 7, 8, 9, 10] rfl
        have hD9 := hD.sub (ws' := [(h0, Sum.inr (8, [Value.ref tp, Value.ref rd, Value.ref dr, Value.ref fa, Value.ref ly, Value.ref wy])), (tp, Sum.inr (6, [Value.ref tp1, Value.int 0])), (tp1, Sum.inl (tc, 400, Sum.inl tf)), (rd, Sum.inr (2, [Value.int fk1_3, Value.int fp1_4, Value.ref va, Value.ref tp1, Value.int (nI nq), Value.int nx1_5, Value.int tk1_6, Value.int st1_7, Value.int vl1_8])), (va, Sum.inl (vc, 3, Sum.inl fv1_11)), (dr, Sum.inr (1, [Value.ref dr1, Value.ref dr2, Value.ref dr3, Value.ref dr4, Value.int (nI sc1_9), Value.int to1_10])), (dr1, Sum.inl (ec1, 8, Sum.inl d1_12)), (dr2, Sum.inl (ec2, 4, Sum.inl d2_13)), (dr3, Sum.inl (ec3, 4, Sum.inl d3_14)), (dr4, Sum.inl (ec4, 4, Sum.inl d4_15)), (fa, Sum.inr (3, [Value.ref cu, Value.ref rv, Value.ref bt, Value.int (nI bc), Value.int ho, Value.int fe])), (cu, Sum.inr (1, [Value.ref cu1, Value.ref cu2, Value.ref cu3, Value.ref cu4, Value.int (nI sc1_9), Value.int to1_10])), (cu1, Sum.inl (cc1, 8, Sum.inl d1_12)), (cu2, Sum.inl (cc2, 4, Sum.inl d2_13)), (cu3, Sum.inl (cc3, 4, Sum.inl d3_14)), (cu4, Sum.inl (cc4, 4, Sum.inl d4_15))]) [0, 1, 5, 3, 4, 11, 12, 13, 14, 15, 2, 6, 7, 8, 9, 10] (by decide) rfl
        have hK9 := hK.sub (tys' := []) [] rfl
        refine W.widen (k := 0) (n := 0) (by decide) (by decide) ?_
        exact W.iret (v := nI rn) hx hb hr (fun t ht hW => ⟨⟨(nI rn), (0, fk1_3, fp1_4, tp1, nI nq, nx1_5, tk1_6, st1_7, vl1_8, fv1_11, nI sc1_9, to1_10, d1_12, d2_13, d3_14, d4_15, nI sc1_9, to1_10, d1_12, d2_13, d3_14, d4_15), rfl, ⟨(if_neg hxn).symm, Or.inr ⟨hxn, nq, hnq, rfl, Or.inl ⟨hq0, by rw [hRg], hq3, hq4⟩⟩, fun P _ => by rw [cuP_y (by omega) hxn hq0]; exact Kc_of hq5⟩, by rw [ht]; exact hP9, va_K.moved hW.alike hK9, hD9⟩, hS.F ht⟩) hS.2.2 dX9_customs_66
      · skip
        subst hq1
        refine lv_istore_n (lv' := [(2, Value.int ((-1))), (0, Value.ref h0), (1, Value.int (nI nq))]) hx hb dX9_customs_37 rfl hl (by decide) rfl (fun ls hl => ?_)
        refine lv_aload_n hx hb dX9_customs_38 rfl (lv_at hl 1 rfl) ?_
        refine va_get (D := D) (ci := 8) (v := Value.ref tp) (C := RX9) (T := TX9) (N := 6) hx hb hts inG_X9 hown hK hP 0 rfl rfl 0 (by decide) (hts _ kw_2_67) (fun _ h9 => h9) rfl dX9_customs_39 ?_
        refine lv_iconst (v := 0) hx hb dX9_customs_42 (by decide) ?_
        refine va_put (D := D) (ci := 6) (v := Value.int 0) (ty := .int) (C := RX7) (T := TX7) (N := 2) hx hb hts inG_X7 tyX7 tyX7_ok nmX7 hown hK hP hD hS 1 rfl rfl 1 (by decide) (hts _ kw_1_41) (fun _ h9 => h9) rfl (by decide +kernel) rfl rfl (Nat.le_of_ble_eq_true rfl) dX9_customs_43 (fun H locs hP hD hS => ?_)
        have hP : va_P D vwCl [(h0, Sum.inr (8, [Value.ref tp, Value.ref rd, Value.ref dr, Value.ref fa, Value.ref ly, Value.ref wy])), (tp, Sum.inr (6, [Value.ref tp1, Value.int 0])), (fa, Sum.inr (3, [Value.ref cu, Value.ref rv, Value.ref bt, Value.int (nI bc), Value.int ho, Value.int fe])), (cu, Sum.inr (1, [Value.ref cu1, Value.ref cu2, Value.ref cu3, Value.ref cu4, Value.int sc, Value.int to])), (cu1, Sum.inl (cc1, 8, Sum.inl cf1)), (cu2, Sum.inl (cc2, 4, Sum.inl cf2)), (cu3, Sum.inl (cc3, 4, Sum.inl cf3)), (cu4, Sum.inl (cc4, 4, Sum.inl cf4)), (rd, Sum.inr (2, [Value.int fk1_3, Value.int fp1_4, Value.ref va, Value.ref tp1, Value.int (nI nq), Value.int nx1_5, Value.int tk1_6, Value.int st1_7, Value.int vl1_8])), (va, Sum.inl (vc, 3, Sum.inl fv1_11)), (tp1, Sum.inl (tc, 400, Sum.inl tf)), (dr, Sum.inr (1, [Value.ref dr1, Value.ref dr2, Value.ref dr3, Value.ref dr4, Value.int (nI sc1_9), Value.int to1_10])), (dr1, Sum.inl (ec1, 8, Sum.inl d1_12)), (dr2, Sum.inl (ec2, 4, Sum.inl d2_13)), (dr3, Sum.inl (ec3, 4, Sum.inl d3_14)), (dr4, Sum.inl (ec4, 4, Sum.inl d4_15))] H := hP
        have hD : va_D A [(h0, Sum.inr (8, [Value.ref tp, Value.ref rd, Value.ref dr, Value.ref fa, Value.ref ly, Value.ref wy])), (tp, Sum.inr (6, [Value.ref tp1, Value.int 0])), (fa, Sum.inr (3, [Value.ref cu, Value.ref rv, Value.ref bt, Value.int (nI bc), Value.int ho, Value.int fe])), (cu, Sum.inr (1, [Value.ref cu1, Value.ref cu2, Value.ref cu3, Value.ref cu4, Value.int sc, Value.int to])), (cu1, Sum.inl (cc1, 8, Sum.inl cf1)), (cu2, Sum.inl (cc2, 4, Sum.inl cf2)), (cu3, Sum.inl (cc3, 4, Sum.inl cf3)), (cu4, Sum.inl (cc4, 4, Sum.inl cf4)), (rd, Sum.inr (2, [Value.int fk1_3, Value.int fp1_4, Value.ref va, Value.ref tp1, Value.int (nI nq), Value.int nx1_5, Value.int tk1_6, Value.int st1_7, Value.int vl1_8])), (va, Sum.inl (vc, 3, Sum.inl fv1_11)), (tp1, Sum.inl (tc, 400, Sum.inl tf)), (dr, Sum.inr (1, [Value.ref dr1, Value.ref dr2, Value.ref dr3, Value.ref dr4, Value.int (nI sc1_9), Value.int to1_10])), (dr1, Sum.inl (ec1, 8, Sum.inl d1_12)), (dr2, Sum.inl (ec2, 4, Sum.inl d2_13)), (dr3, Sum.inl (ec3, 4, Sum.inl d3_14)), (dr4, Sum.inl (ec4, 4, Sum.inl d4_15))] := hD
        refine lv_iload_n hx hb dX9_customs_46 rfl (lv_at hl 0 rfl) ?_
        refine lv_iconst (v := -1) hx hb dX9_customs_47 (by decide) ?_
        refine lv_icmp_eq (tgt := 65) hx hb dX9_customs_48 (by decide) (fun c_21 => ?_) (fun c_21 => absurd c_21 (by decide))
        refine lv_iload_n hx hb dX9_customs_65 rfl (lv_at hl 0 rfl) ?_
        have hP9 := hP.sub (ws' := [(h0, Sum.inr (8, [Value.ref tp, Value.ref rd, Value.ref dr, Value.ref fa, Value.ref ly, Value.ref wy])), (tp, Sum.inr (6, [Value.ref tp1, Value.int 0])), (tp1, Sum.inl (tc, 400, Sum.inl tf)), (rd, Sum.inr (2, [Value.int fk1_3, Value.int fp1_4, Value.ref va, Value.ref tp1, Value.int (nI nq), Value.int nx1_5, Value.int tk1_6, Value.int st1_7, Value.int vl1_8])), (va, Sum.inl (vc, 3, Sum.inl fv1_11)), (dr, Sum.inr (1, [Value.ref dr1, Value.ref dr2, Value.ref dr3, Value.ref dr4, Value.int (nI sc1_9), Value.int to1_10])), (dr1, Sum.inl (ec1, 8, Sum.inl d1_12)), (dr2, Sum.inl (ec2, 4, Sum.inl d2_13)), (dr3, Sum.inl (ec3, 4, Sum.inl d3_14)), (dr4, Sum.inl (ec4, 4, Sum.inl d4_15)), (fa, Sum.inr (3, [Value.ref cu, Value.ref rv, Value.ref bt, Value.int (nI bc), Value.int ho, Value.int fe])), (cu, Sum.inr (1, [Value.ref cu1, Value.ref cu2, Value.ref cu3, Value.ref cu4, Value.int sc, Value.int to])), (cu1, Sum.inl (cc1, 8, Sum.inl cf1)), (cu2, Sum.inl (cc2, 4, Sum.inl cf2)), (cu3, Sum.inl (cc3, 4, Sum.inl cf3)), (cu4, Sum.inl (cc4, 4, Sum.inl cf4))]) [0, 1, 10, 8, 9, 11, 12, 13, 14, 15, 2, 3, 4, 5, 6, 7] rfl
        have hD9 := hD.sub (ws' := [(h0, Sum.inr (8, [Value.ref tp, Value.ref rd, Value.ref dr, Value.ref fa, Value.ref ly, Value.ref wy])), (tp, Sum.inr (6, [Value.ref tp1, Value.int 0])), (tp1, Sum.inl (tc, 400, Sum.inl tf)), (rd, Sum.inr (2, [Value.int fk1_3, Value.int fp1_4, Value.ref va, Value.ref tp1, Value.int (nI nq), Value.int nx1_5, Value.int tk1_6, Value.int st1_7, Value.int vl1_8])), (va, Sum.inl (vc, 3, Sum.inl fv1_11)), (dr, Sum.inr (1, [Value.ref dr1, Value.ref dr2, Value.ref dr3, Value.ref dr4, Value.int (nI sc1_9), Value.int to1_10])), (dr1, Sum.inl (ec1, 8, Sum.inl d1_12)), (dr2, Sum.inl (ec2, 4, Sum.inl d2_13)), (dr3, Sum.inl (ec3, 4, Sum.inl d3_14)), (dr4, Sum.inl (ec4, 4, Sum.inl d4_15)), (fa, Sum.inr (3, [Value.ref cu, Value.ref rv, Value.ref bt, Value.int (nI bc), Value.int ho, Value.int fe])), (cu, Sum.inr (1, [Value.ref cu1, Value.ref cu2, Value.ref cu3, Value.ref cu4, Value.int sc, Value.int to])), (cu1, Sum.inl (cc1, 8, Sum.inl cf1)), (cu2, Sum.inl (cc2, 4, Sum.inl cf2)), (cu3, Sum.inl (cc3, 4, Sum.inl cf3)), (cu4, Sum.inl (cc4, 4, Sum.inl cf4))]) [0, 1, 10, 8, 9, 11, 12, 13, 14, 15, 2, 3, 4, 5, 6, 7] (by decide) rfl
        have hK9 := hK.sub (tys' := []) [] rfl
        refine W.widen (k := 0) (n := 0) (by decide) (by decide) ?_
        exact W.iret (v := (-1)) hx hb hr (fun t ht hW => ⟨⟨((-1)), (0, fk1_3, fp1_4, tp1, nI nq, nx1_5, tk1_6, st1_7, vl1_8, fv1_11, nI sc1_9, to1_10, d1_12, d2_13, d3_14, d4_15, sc, to, cf1, cf2, cf3, cf4), rfl, ⟨(if_neg hxn).symm, Or.inr ⟨hxn, nq, hnq, rfl, Or.inr ⟨hq0, rfl, hq2, hq3⟩⟩, fun P hP9 => by rw [cuP_f (by omega) hxn hq0]; exact hP9⟩, by rw [ht]; exact hP9, va_K.moved hW.alike hK9, hD9⟩, hS.F ht⟩) hS.2.2 dX9_customs_66
    · skip
      have c_2 := Int32.not_le.mp c_2
      refine lv_bipush (v := -2) hx hb dX9_customs_15 (by decide) ?_
      have hP9 := hP.sub (ws' := [(h0, Sum.inr (8, [Value.ref tp, Value.ref rd, Value.ref dr, Value.ref fa, Value.ref ly, Value.ref wy])), (tp, Sum.inr (6, [Value.ref tp1, Value.int (nI ln)])), (tp1, Sum.inl (tc, 400, Sum.inl tf)), (rd, Sum.inr (2, [Value.int fk, Value.int fp, Value.ref va, Value.ref tx, Value.int rl, Value.int nx, Value.int tk, Value.int sa, Value.int vl])), (va, Sum.inl (vc, 3, Sum.inl fv)), (dr, Sum.inr (1, [Value.ref dr1, Value.ref dr2, Value.ref dr3, Value.ref dr4, Value.int dsc, Value.int dto])), (dr1, Sum.inl (ec1, 8, Sum.inl ef1)), (dr2, Sum.inl (ec2, 4, Sum.inl ef2)), (dr3, Sum.inl (ec3, 4, Sum.inl ef3)), (dr4, Sum.inl (ec4, 4, Sum.inl ef4)), (fa, Sum.inr (3, [Value.ref cu, Value.ref rv, Value.ref bt, Value.int (nI bc), Value.int ho, Value.int fe])), (cu, Sum.inr (1, [Value.ref cu1, Value.ref cu2, Value.ref cu3, Value.ref cu4, Value.int sc, Value.int to])), (cu1, Sum.inl (cc1, 8, Sum.inl cf1)), (cu2, Sum.inl (cc2, 4, Sum.inl cf2)), (cu3, Sum.inl (cc3, 4, Sum.inl cf3)), (cu4, Sum.inl (cc4, 4, Sum.inl cf4))]) [0, 1, 2, 3, 4, 5, 6, 7, 8, 9, 10, 11, 12, 13, 14, 15] rfl
      have hD9 := hD.sub (ws' := [(h0, Sum.inr (8, [Value.ref tp, Value.ref rd, Value.ref dr, Value.ref fa, Value.ref ly, Value.ref wy])), (tp, Sum.inr (6, [Value.ref tp1, Value.int (nI ln)])), (tp1, Sum.inl (tc, 400, Sum.inl tf)), (rd, Sum.inr (2, [Value.int fk, Value.int fp, Value.ref va, Value.ref tx, Value.int rl, Value.int nx, Value.int tk, Value.int sa, Value.int vl])), (va, Sum.inl (vc, 3, Sum.inl fv)), (dr, Sum.inr (1, [Value.ref dr1, Value.ref dr2, Value.ref dr3, Value.ref dr4, Value.int dsc, Value.int dto])), (dr1, Sum.inl (ec1, 8, Sum.inl ef1)), (dr2, Sum.inl (ec2, 4, Sum.inl ef2)), (dr3, Sum.inl (ec3, 4, Sum.inl ef3)), (dr4, Sum.inl (ec4, 4, Sum.inl ef4)), (fa, Sum.inr (3, [Value.ref cu, Value.ref rv, Value.ref bt, Value.int (nI bc), Value.int ho, Value.int fe])), (cu, Sum.inr (1, [Value.ref cu1, Value.ref cu2, Value.ref cu3, Value.ref cu4, Value.int sc, Value.int to])), (cu1, Sum.inl (cc1, 8, Sum.inl cf1)), (cu2, Sum.inl (cc2, 4, Sum.inl cf2)), (cu3, Sum.inl (cc3, 4, Sum.inl cf3)), (cu4, Sum.inl (cc4, 4, Sum.inl cf4))]) [0, 1, 2, 3, 4, 5, 6, 7, 8, 9, 10, 11, 12, 13, 14, 15] (by decide) rfl
      have hK9 := hK.sub (tys' := []) [] rfl
      refine W.widen (k := 0) (n := 0) (by decide) (by decide) ?_
      exact W.iret (v := (-2)) hx hb hr (fun t ht hW => ⟨⟨((-2)), (ln, fk, fp, tx, rl, nx, tk, sa, vl, fv, dsc, dto, ef1, ef2, ef3, ef4, sc, to, cf1, cf2, cf3, cf4), rfl, ⟨(if_pos (Or.inr c_2)).symm, Or.inl ⟨Or.inr c_2, rfl, rfl, rfl⟩, fun P hP9 => by rw [cuP_n (Or.inr c_2)]; exact hP9⟩, by rw [ht]; exact hP9, va_K.moved hW.alike hK9, hD9⟩, hS.F ht⟩) hS.2.2 dX9_customs_17
set_option maxHeartbeats 4000000 in
set_option maxRecDepth 100000 in
theorem p_fault (l : Launch) (D : va_G) (h0 : Nat) (tp : Nat) (rd : Nat) (dr : Nat) (fa : Nat) (ly : Nat) (wy : Nat) (fk : Int32) (fp : Int32) (va : Nat) (tx : Nat) (rl : Int32) (nx : Int32) (tk : Int32) (sa : Int32) (vl : Int32) (x : Int32) : cI l yX9_fault (.code yX9_fault cX9_fault 2 (some .int)) ({ frames := 0, cells := 0, slots := 0, locals := 0 }) D [] [(h0, Sum.inr (8, [Value.ref tp, Value.ref rd, Value.ref dr, Value.ref fa, Value.ref ly, Value.ref wy])), (rd, Sum.inr (2, [Value.int fk, Value.int fp, Value.ref va, Value.ref tx, Value.int rl, Value.int nx, Value.int tk, Value.int sa, Value.int vl]))] xT [Value.ref h0, Value.int x] (S := Unit) (fun r _ => r = (if x = 0 then fk else if x = 1 then fp else (-1))) (fun _ => []) (fun _ => [(h0, Sum.inr (8, [Value.ref tp, Value.ref rd, Value.ref dr, Value.ref fa, Value.ref ly, Value.ref wy])), (rd, Sum.inr (2, [Value.int fk, Value.int fp, Value.ref va, Value.ref tx, Value.int rl, Value.int nx, Value.int tk, Value.int sa, Value.int vl]))]) := by
  intro sz
  refine Met.ofW (cc := cX9_fault) (maxL := 2) (ret := (some .int)) (by decide) rfl ?_
  intro p e s m args below meth c s₁ B hml hv
  obtain ⟨rfl, hsz, hP, hK, hD0, hX⟩ := hv
  have hx := B.exec
  have hb := B.bytes
  have hr := B.returns
  have hts0 := atoms_spec (ws := .code yX9_fault cX9_fault 2 (some .int) :: gw) B.pre
  have hts := fun (w : Cond) (h : w ∈ gw) => hts0 w (List.mem_cons_of_mem _ h)
  have hown : s.vm.findClass RX9 = some m.cls := findClass_of_methodNamed B.named
  have hlocks := B.notSynchronized
  have F : mFix p s m _ c cX9_fault 2 RX9 := ⟨hx, hb, hml, hown, hts⟩
  subst hsz
  have hD := hD0.self (sz := s.heap.size)
  generalize hAe : va_A [(h0, Sum.inr (8, [Value.ref tp, Value.ref rd, Value.ref dr, Value.ref fa, Value.ref ly, Value.ref wy])), (rd, Sum.inr (2, [Value.int fk, Value.int fp, Value.ref va, Value.ref tx, Value.int rl, Value.int nx, Value.int tk, Value.int sa, Value.int vl]))] s.heap.size = A at hD hX ⊢
  have hA : ∀ q : Nat, s.heap.size ≤ q → A q := fun q h => by rw [← hAe]; exact Or.inr h
  have hS : va_S A s.heap s.heap [] := va_S.rf
  have hl := lv_entry ([Value.ref h0, Value.int x]) (n := 2) (Nat.le_of_ble_eq_true rfl)
  rw [lg_entry_eq]
  generalize (lg_sl ([Value.ref h0, Value.int x]) ++ List.replicate (2 - (lg_sl ([Value.ref h0, Value.int x])).length) Slot.unset).toArray = ls at hl ⊢
  have hl : lv_has ls 2 [(0, Value.ref h0), (1, Value.int x)] := hl
  have hP : va_P D vwCl [(h0, Sum.inr (8, [Value.ref tp, Value.ref rd, Value.ref dr, Value.ref fa, Value.ref ly, Value.ref wy])), (rd, Sum.inr (2, [Value.int fk, Value.int fp, Value.ref va, Value.ref tx, Value.int rl, Value.int nx, Value.int tk, Value.int sa, Value.int vl]))] s.heap := hP
  refine lv_iload_n hx hb dX9_fault_0 rfl (lv_at hl 1 rfl) ?_
  by_cases w_1_0 : x = 0
  · skip
    subst w_1_0
    refine lv_lookup (tgt := 28) (off := 27) hx hb dX9_fault_1 rfl (by decide) (by decide) ?_
    have hl : lv_has ls 2 [(0, Value.ref h0), (1, Value.int 0)] := hl
    refine lv_aload_n hx hb dX9_fault_28 rfl (lv_at hl 0 rfl) ?_
    refine va_get (D := D) (ci := 8) (v := Value.ref rd) (C := RX9) (T := TX9) (N := 6) hx hb hts inG_X9 hown hK hP 0 rfl rfl 1 (by decide) (hts _ kw_2_68) (fun _ h9 => h9) rfl dX9_fault_29 ?_
    refine va_get (D := D) (ci := 2) (v := Value.int fk) (C := RX2) (T := TX2) (N := 9) hx hb hts inG_X2 hown hK hP 1 rfl rfl 0 (by decide) (hts _ kw_1_55) (fun _ h9 => h9) rfl dX9_fault_32 ?_
    have hP9 := hP.sub (ws' := [(h0, Sum.inr (8, [Value.ref tp, Value.ref rd, Value.ref dr, Value.ref fa, Value.ref ly, Value.ref wy])), (rd, Sum.inr (2, [Value.int fk, Value.int fp, Value.ref va, Value.ref tx, Value.int rl, Value.int nx, Value.int tk, Value.int sa, Value.int vl]))]) [0, 1] rfl
    have hD9 := hD.sub (ws' := [(h0, Sum.inr (8, [Value.ref tp, Value.ref rd, Value.ref dr, Value.ref fa, Value.ref ly, Value.ref wy])), (rd, Sum.inr (2, [Value.int fk, Value.int fp, Value.ref va, Value.ref tx, Value.int rl, Value.int nx, Value.int tk, Value.int sa, Value.int vl]))]) [0, 1] (by decide) rfl
    have hK9 := hK.sub (tys' := []) [] rfl
    refine W.widen (k := 0) (n := 0) (by decide) (by decide) ?_
    exact W.iret (v := fk) hx hb hr (fun t ht hW => ⟨⟨fk, (), rfl, rfl, by rw [ht]; exact hP9, va_K.moved hW.alike hK9, hD9⟩, hS.F ht⟩) hS.2.2 dX9_fault_35
  by_cases w_1_1 : x = 1
  · skip
    subst w_1_1
    refine lv_lookup (tgt := 36) (off := 35) hx hb dX9_fault_1 rfl (by decide) (by decide) ?_
    have hl : lv_has ls 2 [(0, Value.ref h0), (1, Value.int 1)] := hl
    refine lv_aload_n hx hb dX9_fault_36 rfl (lv_at hl 0 rfl) ?_
    refine va_get (D := D) (ci := 8) (v := Value.ref rd) (C := RX9) (T := TX9) (N := 6) hx hb hts inG_X9 hown hK hP 0 rfl rfl 1 (by decide) (hts _ kw_2_68) (fun _ h9 => h9) rfl dX9_fault_37 ?_
    refine va_get (D := D) (ci := 2) (v := Value.int fp) (C := RX2) (T := TX2) (N := 9) hx hb hts inG_X2 hown hK hP 1 rfl rfl 1 (by decide) (hts _ kw_1_57) (fun _ h9 => h9) rfl dX9_fault_40 ?_
    have hP9 := hP.sub (ws' := [(h0, Sum.inr (8, [Value.ref tp, Value.ref rd, Value.ref dr, Value.ref fa, Value.ref ly, Value.ref wy])), (rd, Sum.inr (2, [Value.int fk, Value.int fp, Value.ref va, Value.ref tx, Value.int rl, Value.int nx, Value.int tk, Value.int sa, Value.int vl]))]) [0, 1] rfl
    have hD9 := hD.sub (ws' := [(h0, Sum.inr (8, [Value.ref tp, Value.ref rd, Value.ref dr, Value.ref fa, Value.ref ly, Value.ref wy])), (rd, Sum.inr (2, [Value.int fk, Value.int fp, Value.ref va, Value.ref tx, Value.int rl, Value.int nx, Value.int tk, Value.int sa, Value.int vl]))]) [0, 1] (by decide) rfl
    have hK9 := hK.sub (tys' := []) [] rfl
    refine W.widen (k := 0) (n := 0) (by decide) (by decide) ?_
    exact W.iret (v := fp) hx hb hr (fun t ht hW => ⟨⟨fp, (), rfl, rfl, by rw [ht]; exact hP9, va_K.moved hW.alike hK9, hD9⟩, hS.F ht⟩) hS.2.2 dX9_fault_43
  have w_1_0t : ¬ 0 = x.toInt := fun h => w_1_0 (Int32.toInt_inj.mp h.symm)
  have w_1_1t : ¬ 1 = x.toInt := fun h => w_1_1 (Int32.toInt_inj.mp h.symm)
  refine lv_lookup (tgt := 44) hx hb dX9_fault_1 rfl (off := 43) (by simp [Op.lookupswitch.offset, w_1_0t, w_1_1t]) (by decide) ?_
  refine lv_iconst (v := -1) hx hb dX9_fault_44 (by decide) ?_
  have hP9 := hP.sub (ws' := [(h0, Sum.inr (8, [Value.ref tp, Value.ref rd, Value.ref dr, Value.ref fa, Value.ref ly, Value.ref wy])), (rd, Sum.inr (2, [Value.int fk, Value.int fp, Value.ref va, Value.ref tx, Value.int rl, Value.int nx, Value.int tk, Value.int sa, Value.int vl]))]) [0, 1] rfl
  have hD9 := hD.sub (ws' := [(h0, Sum.inr (8, [Value.ref tp, Value.ref rd, Value.ref dr, Value.ref fa, Value.ref ly, Value.ref wy])), (rd, Sum.inr (2, [Value.int fk, Value.int fp, Value.ref va, Value.ref tx, Value.int rl, Value.int nx, Value.int tk, Value.int sa, Value.int vl]))]) [0, 1] (by decide) rfl
  have hK9 := hK.sub (tys' := []) [] rfl
  refine W.widen (k := 0) (n := 0) (by decide) (by decide) ?_
  exact W.iret (v := (-1)) hx hb hr (fun t ht hW => ⟨⟨((-1)), (), rfl, (by rw [if_neg w_1_0, if_neg w_1_1]), by rw [ht]; exact hP9, va_K.moved hW.alike hK9, hD9⟩, hS.F ht⟩) hS.2.2 dX9_fault_45
