set_option maxHeartbeats 4000000 in
set_option maxRecDepth 100000 in
theorem p_isTold (l : Launch) (D : va_G) (en : Nat → Nat) (h0 : Nat) (cu1 : Nat) (cu2 : Nat) (cu3 : Nat) (cu4 : Nat) (sc : Nat) (to : Int32) (i : Nat) (td : Nat → Bool) (hi7 : i < 7) (htd : td i = true ↔ ¬ to &&& bitS i = 0) : cI l yX1_isTold (.code yX1_isTold cX1_isTold 2 (some .boolean)) ({ frames := 0, cells := 0, slots := 0, locals := 0 }) D [] [(h0, Sum.inr (1, [Value.ref cu1, Value.ref cu2, Value.ref cu3, Value.ref cu4, Value.int (nI sc), Value.int to]))] (xN en) [Value.ref h0, Value.ref (en i)] (S := Unit) (fun r _ => r = (if td i then 1 else 0)) (fun _ => []) (fun _ => [(h0, Sum.inr (1, [Value.ref cu1, Value.ref cu2, Value.ref cu3, Value.ref cu4, Value.int (nI sc), Value.int to]))]) := by
  intro sz
  refine Met.ofW (cc := cX1_isTold) (maxL := 2) (ret := (some .boolean)) (by decide) rfl ?_
  intro p e s m args below meth c s₁ B hml hv
  obtain ⟨rfl, hsz, hP, hK, hD0, hX⟩ := hv
  have hx := B.exec
  have hb := B.bytes
  have hr := B.returns
  have hts0 := atoms_spec (ws := .code yX1_isTold cX1_isTold 2 (some .boolean) :: gw) B.pre
  have hts := fun (w : Cond) (h : w ∈ gw) => hts0 w (List.mem_cons_of_mem _ h)
  have hown : s.vm.findClass RX1 = some m.cls := findClass_of_methodNamed B.named
  have hlocks := B.notSynchronized
  have F : mFix p s m _ c cX1_isTold 2 RX1 := ⟨hx, hb, hml, hown, hts⟩
  subst hsz
  have hD := hD0.self (sz := s.heap.size)
  generalize hAe : va_A [(h0, Sum.inr (1, [Value.ref cu1, Value.ref cu2, Value.ref cu3, Value.ref cu4, Value.int (nI sc), Value.int to]))] s.heap.size = A at hD hX ⊢
  have hA : ∀ q : Nat, s.heap.size ≤ q → A q := fun q h => by rw [← hAe]; exact Or.inr h
  have hS : va_S A s.heap s.heap [] := va_S.rf
  have hl := lv_entry ([Value.ref h0, Value.ref (en i)]) (n := 2) (Nat.le_of_ble_eq_true rfl)
  rw [lg_entry_eq]
  generalize (lg_sl ([Value.ref h0, Value.ref (en i)]) ++ List.replicate (2 - (lg_sl ([Value.ref h0, Value.ref (en i)])).length) Slot.unset).toArray = ls at hl ⊢
  have hl : lv_has ls 2 [(0, Value.ref h0), (1, Value.ref (en i))] := hl
  have hP : va_P D vwCl [(h0, Sum.inr (1, [Value.ref cu1, Value.ref cu2, Value.ref cu3, Value.ref cu4, Value.int (nI sc), Value.int to]))] s.heap := hP
  refine lv_aload_n hx hb dX1_isTold_0 rfl (lv_at hl 0 rfl) ?_
  refine va_get (D := D) (ci := 1) (v := Value.int to) (C := RX1) (T := TX1) (N := 6) hx hb hts inG_X1 hown hK hP 0 rfl rfl 5 (by decide) (hts _ kw_1_110) (fun _ h9 => h9) rfl dX1_isTold_1 ?_
  refine lv_iconst (v := 1) hx hb dX1_isTold_4 (by decide) ?_
  refine lv_aload_n hx hb dX1_isTold_5 rfl (lv_at hl 1 rfl) ?_
  refine x_getE hx hb (i := i) hX (by omega) hS hown (q := (RX5, "slot", "I", enSl)) (List.mem_of_getElem? (i := 0) rfl) rfl (hts _ kw_6_40) dX1_isTold_6 ?_
  refine lv_topi (fun z_1 ez_1 => ?_)
  obtain rfl : z_1 = nI (slN i) := ez_1.trans (enSl_nI i (by omega))
  refine lv_ishl hx hb dX1_isTold_9 ?_
  refine lv_topi (fun z_2 ez_2 => ?_)
  refine lv_iand hx hb dX1_isTold_10 ?_
  refine lv_topi (fun z_3 ez_3 => ?_)
  refine lv_if_eq (tgt := 18) hx hb dX1_isTold_11 (by decide) (fun c_4 => ?_) (fun c_4 => ?_)
  · skip
    refine lv_iconst (v := 0) hx hb dX1_isTold_18 (by decide) ?_
    have hP9 := hP.sub (ws' := [(h0, Sum.inr (1, [Value.ref cu1, Value.ref cu2, Value.ref cu3, Value.ref cu4, Value.int (nI sc), Value.int to]))]) [0] rfl
    have hD9 := hD.sub (ws' := [(h0, Sum.inr (1, [Value.ref cu1, Value.ref cu2, Value.ref cu3, Value.ref cu4, Value.int (nI sc), Value.int to]))]) [0] (by decide) rfl
    have hK9 := hK.sub (tys' := []) [] rfl
    refine W.widen (k := 0) (n := 0) (by decide) (by decide) ?_
    exact W.zret (v := 0) hx hb hr rfl (fun t ht hW => ⟨⟨0, (), rfl, (by rw [ez_3, ez_2] at c_4; rw [if_neg (fun q => htd.mp q c_4)]), by rw [ht]; exact hP9, va_K.moved hW.alike hK9, hD9⟩, hS.F ht⟩) hS.2.2 dX1_isTold_19
  · skip
    refine lv_iconst (v := 1) hx hb dX1_isTold_14 (by decide) ?_
    refine lv_goto (tgt := 19) hx hb dX1_isTold_15 (by decide) ?_
    have hP9 := hP.sub (ws' := [(h0, Sum.inr (1, [Value.ref cu1, Value.ref cu2, Value.ref cu3, Value.ref cu4, Value.int (nI sc), Value.int to]))]) [0] rfl
    have hD9 := hD.sub (ws' := [(h0, Sum.inr (1, [Value.ref cu1, Value.ref cu2, Value.ref cu3, Value.ref cu4, Value.int (nI sc), Value.int to]))]) [0] (by decide) rfl
    have hK9 := hK.sub (tys' := []) [] rfl
    refine W.widen (k := 0) (n := 0) (by decide) (by decide) ?_
    exact W.zret (v := 1) hx hb hr rfl (fun t ht hW => ⟨⟨1, (), rfl, (by rw [ez_3, ez_2] at c_4; rw [if_pos (htd.mpr c_4)]), by rw [ht]; exact hP9, va_K.moved hW.alike hK9, hD9⟩, hS.F ht⟩) hS.2.2 dX1_isTold_19
set_option maxHeartbeats 4000000 in
set_option maxRecDepth 100000 in
theorem p_addStair (l : Launch) (D : va_G) (h0 : Nat) (cu1 : Nat) (cu2 : Nat) (cu3 : Nat) (cu4 : Nat) (va : Nat) (cc2 : ClassId) (cc3 : ClassId) (cc4 : ClassId) (vc : ClassId) (c2 : Nat → Int32) (c3 : Nat → Int32) (c4 : Nat → Int32) (fv : Nat → Int32) (sc : Nat) (to : Int32) (hs4 : sc < 4) : cV l yX1_addStair (.code yX1_addStair cX1_addStair 2 none) ({ frames := 0, cells := 0, slots := 0, locals := 0 }) D [(cc2, .int), (cc3, .int), (cc4, .int), (vc, .int)] [(h0, Sum.inr (1, [Value.ref cu1, Value.ref cu2, Value.ref cu3, Value.ref cu4, Value.int (nI sc), Value.int to])), (cu2, Sum.inl (cc2, 4, Sum.inl c2)), (cu3, Sum.inl (cc3, 4, Sum.inl c3)), (cu4, Sum.inl (cc4, 4, Sum.inl c4)), (va, Sum.inl (vc, 3, Sum.inl fv))] xT [Value.ref h0, Value.ref va] (S := (Nat → Int32) × (Nat → Int32) × (Nat → Int32)) (fun u => match u with | (d2, d3, d4) => d2 = upd c2 sc (fv 0) ∧ d3 = upd c3 sc (fv 1) ∧ d4 = upd c4 sc (fv 2)) (fun u => match u with | (d2, d3, d4) => []) (fun u => match u with | (d2, d3, d4) => [(h0, Sum.inr (1, [Value.ref cu1, Value.ref cu2, Value.ref cu3, Value.ref cu4, Value.int (nI (sc + 1)), Value.int to])), (cu2, Sum.inl (cc2, 4, Sum.inl d2)), (cu3, Sum.inl (cc3, 4, Sum.inl d3)), (cu4, Sum.inl (cc4, 4, Sum.inl d4)), (va, Sum.inl (vc, 3, Sum.inl fv))]) := by
  intro sz
  refine Met.ofW (cc := cX1_addStair) (maxL := 2) (ret := none) (by decide) rfl ?_
  intro p e s m args below meth c s₁ B hml hv
  obtain ⟨rfl, hsz, hP, hK, hD0, hX⟩ := hv
  have hx := B.exec
  have hb := B.bytes
  have hr := B.returns
  have hts0 := atoms_spec (ws := .code yX1_addStair cX1_addStair 2 none :: gw) B.pre
  have hts := fun (w : Cond) (h : w ∈ gw) => hts0 w (List.mem_cons_of_mem _ h)
  have hown : s.vm.findClass RX1 = some m.cls := findClass_of_methodNamed B.named
  have hlocks := B.notSynchronized
  have F : mFix p s m _ c cX1_addStair 2 RX1 := ⟨hx, hb, hml, hown, hts⟩
  subst hsz
  have hD := hD0.self (sz := s.heap.size)
  generalize hAe : va_A [(h0, Sum.inr (1, [Value.ref cu1, Value.ref cu2, Value.ref cu3, Value.ref cu4, Value.int (nI sc), Value.int to])), (cu2, Sum.inl (cc2, 4, Sum.inl c2)), (cu3, Sum.inl (cc3, 4, Sum.inl c3)), (cu4, Sum.inl (cc4, 4, Sum.inl c4)), (va, Sum.inl (vc, 3, Sum.inl fv))] s.heap.size = A at hD hX ⊢
  have hA : ∀ q : Nat, s.heap.size ≤ q → A q := fun q h => by rw [← hAe]; exact Or.inr h
  have hS : va_S A s.heap s.heap [] := va_S.rf
  have hl := lv_entry ([Value.ref h0, Value.ref va]) (n := 2) (Nat.le_of_ble_eq_true rfl)
  rw [lg_entry_eq]
  generalize (lg_sl ([Value.ref h0, Value.ref va]) ++ List.replicate (2 - (lg_sl ([Value.ref h0, Value.ref va])).length) Slot.unset).toArray = ls at hl ⊢
  have hl : lv_has ls 2 [(0, Value.ref h0), (1, Value.ref va)] := hl
  have hP : va_P D vwCl [(h0, Sum.inr (1, [Value.ref cu1, Value.ref cu2, Value.ref cu3, Value.ref cu4, Value.int (nI sc), Value.int to])), (cu2, Sum.inl (cc2, 4, Sum.inl c2)), (cu3, Sum.inl (cc3, 4, Sum.inl c3)), (cu4, Sum.inl (cc4, 4, Sum.inl c4)), (va, Sum.inl (vc, 3, Sum.inl fv))] s.heap := hP
  refine lv_aload_n hx hb dX1_addStair_0 rfl (lv_at hl 0 rfl) ?_
  refine va_get (D := D) (ci := 1) (v := Value.int (nI sc)) (C := RX1) (T := TX1) (N := 6) hx hb hts inG_X1 hown hK hP 0 rfl rfl 4 (by decide) (hts _ kw_1_106) (fun _ h9 => h9) rfl dX1_addStair_1 ?_
  refine lv_if_lt (tgt := 21) hx hb dX1_addStair_4 (by decide) (fun c_1 => absurd c_1 (nI_pos (by omega))) (fun c_1 => ?_)
  have c_1n : 0 ≤ sc := nb_lt (by omega) (by omega) c_1
  refine lv_aload_n hx hb dX1_addStair_7 rfl (lv_at hl 0 rfl) ?_
  refine va_get (D := D) (ci := 1) (v := Value.int (nI sc)) (C := RX1) (T := TX1) (N := 6) hx hb hts inG_X1 hown hK hP 0 rfl rfl 4 (by decide) (hts _ kw_1_106) (fun _ h9 => h9) rfl dX1_addStair_8 ?_
  refine lv_iconst (v := 4) hx hb dX1_addStair_11 (by decide) ?_
  refine lv_icmp_ge (tgt := 21) hx hb dX1_addStair_12 (by decide) (fun c_2 => absurd ((nI_leI (a := 4) (b := sc) (by decide) (by omega)).mp c_2) (by omega)) (fun c_2 => ?_)
  have c_2n : sc < 4 := nb_le (by omega) (by omega) c_2
  have c_2 := Int32.not_le.mp c_2
  refine lv_aload_n hx hb dX1_addStair_15 rfl (lv_at hl 1 rfl) ?_
  refine va_alen hx hb hK hP 4 3 rfl rfl (v := 3) rfl dX1_addStair_16 ?_
  refine lv_iconst (v := 3) hx hb dX1_addStair_17 (by decide) ?_
  refine lv_icmp_ge (tgt := 22) hx hb dX1_addStair_18 (by decide) (fun c_3 => ?_) (fun c_3 => absurd c_3 (by decide))
  refine lv_aload_n hx hb dX1_addStair_22 rfl (lv_at hl 0 rfl) ?_
  refine va_get (D := D) (ci := 1) (v := Value.ref cu2) (C := RX1) (T := TX1) (N := 6) hx hb hts inG_X1 hown hK hP 0 rfl rfl 1 (by decide) (hts _ kw_1_100) (fun _ h9 => h9) rfl dX1_addStair_23 ?_
  refine lv_aload_n hx hb dX1_addStair_26 rfl (lv_at hl 0 rfl) ?_
  refine va_get (D := D) (ci := 1) (v := Value.int (nI sc)) (C := RX1) (T := TX1) (N := 6) hx hb hts inG_X1 hown hK hP 0 rfl rfl 4 (by decide) (hts _ kw_1_106) (fun _ h9 => h9) rfl dX1_addStair_27 ?_
  refine lv_aload_n hx hb dX1_addStair_30 rfl (lv_at hl 1 rfl) ?_
  refine lv_iconst (v := 0) hx hb dX1_addStair_31 (by decide) ?_
  refine m_iald hx hb hK hP 4 3 rfl rfl 0 rfl (by decide) (by decide) dX1_addStair_32 ?_
  refine lv_topi (fun v_4 ev_4 => ?_)
  refine m_iast hx hb hK hP hD hS 1 0 rfl rfl sc rfl (by omega) (by decide) dX1_addStair_33 (fun g_5 H locs eg_5 hP hD hS => ?_)
  have hP : va_P D vwCl [(h0, Sum.inr (1, [Value.ref cu1, Value.ref cu2, Value.ref cu3, Value.ref cu4, Value.int (nI sc), Value.int to])), (cu2, Sum.inl (cc2, 4, Sum.inl g_5)), (cu3, Sum.inl (cc3, 4, Sum.inl c3)), (cu4, Sum.inl (cc4, 4, Sum.inl c4)), (va, Sum.inl (vc, 3, Sum.inl fv))] H := hP
  have hD : va_D A [(h0, Sum.inr (1, [Value.ref cu1, Value.ref cu2, Value.ref cu3, Value.ref cu4, Value.int (nI sc), Value.int to])), (cu2, Sum.inl (cc2, 4, Sum.inl g_5)), (cu3, Sum.inl (cc3, 4, Sum.inl c3)), (cu4, Sum.inl (cc4, 4, Sum.inl c4)), (va, Sum.inl (vc, 3, Sum.inl fv))] := hD
  refine lv_aload_n hx hb dX1_addStair_34 rfl (lv_at hl 0 rfl) ?_
  refine va_get (D := D) (ci := 1) (v := Value.ref cu3) (C := RX1) (T := TX1) (N := 6) hx hb hts inG_X1 hown hK hP 0 rfl rfl 2 (by decide) (hts _ kw_1_102) (fun _ h9 => h9) rfl dX1_addStair_35 ?_
  refine lv_aload_n hx hb dX1_addStair_38 rfl (lv_at hl 0 rfl) ?_
  refine va_get (D := D) (ci := 1) (v := Value.int (nI sc)) (C := RX1) (T := TX1) (N := 6) hx hb hts inG_X1 hown hK hP 0 rfl rfl 4 (by decide) (hts _ kw_1_106) (fun _ h9 => h9) rfl dX1_addStair_39 ?_
  refine lv_aload_n hx hb dX1_addStair_42 rfl (lv_at hl 1 rfl) ?_
  refine lv_iconst (v := 1) hx hb dX1_addStair_43 (by decide) ?_
  refine m_iald hx hb hK hP 4 3 rfl rfl 1 rfl (by decide) (by decide) dX1_addStair_44 ?_
  refine lv_topi (fun v_6 ev_6 => ?_)
  refine m_iast hx hb hK hP hD hS 2 1 rfl rfl sc rfl (by omega) (by decide) dX1_addStair_45 (fun g_7 H locs eg_7 hP hD hS => ?_)
  have hP : va_P D vwCl [(h0, Sum.inr (1, [Value.ref cu1, Value.ref cu2, Value.ref cu3, Value.ref cu4, Value.int (nI sc), Value.int to])), (cu2, Sum.inl (cc2, 4, Sum.inl g_5)), (cu3, Sum.inl (cc3, 4, Sum.inl g_7)), (cu4, Sum.inl (cc4, 4, Sum.inl c4)), (va, Sum.inl (vc, 3, Sum.inl fv))] H := hP
  have hD : va_D A [(h0, Sum.inr (1, [Value.ref cu1, Value.ref cu2, Value.ref cu3, Value.ref cu4, Value.int (nI sc), Value.int to])), (cu2, Sum.inl (cc2, 4, Sum.inl g_5)), (cu3, Sum.inl (cc3, 4, Sum.inl g_7)), (cu4, Sum.inl (cc4, 4, Sum.inl c4)), (va, Sum.inl (vc, 3, Sum.inl fv))] := hD
  refine lv_aload_n hx hb dX1_addStair_46 rfl (lv_at hl 0 rfl) ?_
  refine va_get (D := D) (ci := 1) (v := Value.ref cu4) (C := RX1) (T := TX1) (N := 6) hx hb hts inG_X1 hown hK hP 0 rfl rfl 3 (by decide) (hts _ kw_1_104) (fun _ h9 => h9) rfl dX1_addStair_47 ?_
  refine lv_aload_n hx hb dX1_addStair_50 rfl (lv_at hl 0 rfl) ?_
  refine va_get (D := D) (ci := 1) (v := Value.int (nI sc)) (C := RX1) (T := TX1) (N := 6) hx hb hts inG_X1 hown hK hP 0 rfl rfl 4 (by decide) (hts _ kw_1_106) (fun _ h9 => h9) rfl dX1_addStair_51 ?_
  refine lv_aload_n hx hb dX1_addStair_54 rfl (lv_at hl 1 rfl) ?_
  refine lv_iconst (v := 2) hx hb dX1_addStair_55 (by decide) ?_
  refine m_iald hx hb hK hP 4 3 rfl rfl 2 rfl (by decide) (by decide) dX1_addStair_56 ?_
  refine lv_topi (fun v_8 ev_8 => ?_)
  refine m_iast hx hb hK hP hD hS 3 2 rfl rfl sc rfl (by omega) (by decide) dX1_addStair_57 (fun g_9 H locs eg_9 hP hD hS => ?_)
  have hP : va_P D vwCl [(h0, Sum.inr (1, [Value.ref cu1, Value.ref cu2, Value.ref cu3, Value.ref cu4, Value.int (nI sc), Value.int to])), (cu2, Sum.inl (cc2, 4, Sum.inl g_5)), (cu3, Sum.inl (cc3, 4, Sum.inl g_7)), (cu4, Sum.inl (cc4, 4, Sum.inl g_9)), (va, Sum.inl (vc, 3, Sum.inl fv))] H := hP
  have hD : va_D A [(h0, Sum.inr (1, [Value.ref cu1, Value.ref cu2, Value.ref cu3, Value.ref cu4, Value.int (nI sc), Value.int to])), (cu2, Sum.inl (cc2, 4, Sum.inl g_5)), (cu3, Sum.inl (cc3, 4, Sum.inl g_7)), (cu4, Sum.inl (cc4, 4, Sum.inl g_9)), (va, Sum.inl (vc, 3, Sum.inl fv))] := hD
  refine lv_aload_n hx hb dX1_addStair_58 rfl (lv_at hl 0 rfl) ?_
  refine lv_dup hx hb dX1_addStair_59 rfl ?_
  refine va_get (D := D) (ci := 1) (v := Value.int (nI sc)) (C := RX1) (T := TX1) (N := 6) hx hb hts inG_X1 hown hK hP 0 rfl rfl 4 (by decide) (hts _ kw_1_106) (fun _ h9 => h9) rfl dX1_addStair_60 ?_
  refine lv_iconst (v := 1) hx hb dX1_addStair_63 (by decide) ?_
  refine lv_iadd hx hb dX1_addStair_64 ?_
  refine lv_topi (fun z_10 ez_10 => ?_)
  obtain rfl : z_10 = nI (sc + 1) := ez_10.trans (nI_add sc 1)
  refine va_put (D := D) (ci := 1) (v := Value.int (nI (sc + 1))) (ty := .int) (C := RX1) (T := TX1) (N := 6) hx hb hts inG_X1 tyX1 tyX1_ok nmX1 hown hK hP hD hS 0 rfl rfl 4 (by decide) (hts _ kw_1_106) (fun _ h9 => h9) rfl (by decide +kernel) rfl rfl (Nat.le_of_ble_eq_true rfl) dX1_addStair_65 (fun H locs hP hD hS => ?_)
  have hP : va_P D vwCl [(h0, Sum.inr (1, [Value.ref cu1, Value.ref cu2, Value.ref cu3, Value.ref cu4, Value.int (nI (sc + 1)), Value.int to])), (cu2, Sum.inl (cc2, 4, Sum.inl g_5)), (cu3, Sum.inl (cc3, 4, Sum.inl g_7)), (cu4, Sum.inl (cc4, 4, Sum.inl g_9)), (va, Sum.inl (vc, 3, Sum.inl fv))] H := hP
  have hD : va_D A [(h0, Sum.inr (1, [Value.ref cu1, Value.ref cu2, Value.ref cu3, Value.ref cu4, Value.int (nI (sc + 1)), Value.int to])), (cu2, Sum.inl (cc2, 4, Sum.inl g_5)), (cu3, Sum.inl (cc3, 4, Sum.inl g_7)), (cu4, Sum.inl (cc4, 4, Sum.inl g_9)), (va, Sum.inl (vc, 3, Sum.inl fv))] := hD
  have hP9 := hP.sub (ws' := [(h0, Sum.inr (1, [Value.ref cu1, Value.ref cu2, Value.ref cu3, Value.ref cu4, Value.int (nI (sc + 1)), Value.int to])), (cu2, Sum.inl (cc2, 4, Sum.inl g_5)), (cu3, Sum.inl (cc3, 4, Sum.inl g_7)), (cu4, Sum.inl (cc4, 4, Sum.inl g_9)), (va, Sum.inl (vc, 3, Sum.inl fv))]) [0, 1, 2, 3, 4] rfl
  have hD9 := hD.sub (ws' := [(h0, Sum.inr (1, [Value.ref cu1, Value.ref cu2, Value.ref cu3, Value.ref cu4, Value.int (nI (sc + 1)), Value.int to])), (cu2, Sum.inl (cc2, 4, Sum.inl g_5)), (cu3, Sum.inl (cc3, 4, Sum.inl g_7)), (cu4, Sum.inl (cc4, 4, Sum.inl g_9)), (va, Sum.inl (vc, 3, Sum.inl fv))]) [0, 1, 2, 3, 4] (by decide) rfl
  have hK9 := hK.sub (tys' := []) [] rfl
  refine W.widen (k := 0) (n := 0) (by decide) (by decide) ?_
  exact W.vret hx hb hr (fun t ht hW => ⟨⟨(g_5, g_7, g_9), rfl, ⟨by rw [eg_5, ev_4], by rw [eg_7, ev_6], by rw [eg_9, ev_8]⟩, by rw [ht]; exact hP9, va_K.moved hW.alike hK9, hD9⟩, hS.F ht⟩) hS.2.2 dX1_addStair_68
set_option maxHeartbeats 4000000 in
set_option maxRecDepth 100000 in
theorem lp_p_tell {p : Program} {l : Launch} {e : Env} {s : State} {m : MethodId} {args : Array Value} {below : List Frame} {meth : Method} {c : Code} {Q : State → Prop} {A : Nat → Prop} {D : va_G} (F : mFix p s m args c cX1_tell 4 RX1) (hA : ∀ q, s.heap.size ≤ q → A q) (en : Nat → Nat) (h0 : Nat) (cu1 : Nat) (cu2 : Nat) (cu3 : Nat) (cu4 : Nat) (va : Nat) (cc1 : ClassId) (cc2 : ClassId) (cc3 : ClassId) (cc4 : ClassId) (vc : ClassId) (fv : Nat → Int32) (i : Nat) (c1 : Nat → Int32) (c2 : Nat → Int32) (c3 : Nat → Int32) (c4 : Nat → Int32) (sc : Nat) (to : Int32) (hK : va_K D vwCl [(cc1, .int), (cc2, .int), (cc3, .int), (cc4, .int), (vc, .int)] s) (hX : (xN en) A s)
    (kx_78 : ∀ (d1 : Nat → Int32), (∀ q, d1 q = if slN i ≤ q ∧ q < slN i + nuN i then fv (q - slN i) else c1 q) → ∀ (H : Heap) (locs : List Loc), va_P D vwCl [(h0, Sum.inr (1, [Value.ref cu1, Value.ref cu2, Value.ref cu3, Value.ref cu4, Value.int (nI sc), Value.int to])), (cu1, Sum.inl (cc1, 8, Sum.inl d1)), (cu2, Sum.inl (cc2, 4, Sum.inl c2)), (cu3, Sum.inl (cc3, 4, Sum.inl c3)), (cu4, Sum.inl (cc4, 4, Sum.inl c4)), (va, Sum.inl (vc, 3, Sum.inl fv))] H → va_D A [(h0, Sum.inr (1, [Value.ref cu1, Value.ref cu2, Value.ref cu3, Value.ref cu4, Value.int (nI sc), Value.int to])), (cu1, Sum.inl (cc1, 8, Sum.inl d1)), (cu2, Sum.inl (cc2, 4, Sum.inl c2)), (cu3, Sum.inl (cc3, 4, Sum.inl c3)), (cu4, Sum.inl (cc4, 4, Sum.inl c4)), (va, Sum.inl (vc, 3, Sum.inl fv))] → va_S A s.heap H locs → ∀ ls : Array Slot, lv_has ls 4 [] → W p l e ({ frames := 1, cells := 0, slots := 0, locals := 21 }) s m args below meth c H locs 0 0 Q (F0 m 78 ls [])) :
    ∀ n : Nat, ∀ (d1 : Nat → Int32) (t : Nat), (t ≤ nuN i) → (i < 7) → (nuN i ≤ 3) → (slN i + nuN i ≤ 8) → (∀ q, d1 q = if slN i ≤ q ∧ q < slN i + t then fv (q - slN i) else c1 q) → (nuN i - t) < n → ∀ (H : Heap) (locs : List Loc), va_P D vwCl [(h0, Sum.inr (1, [Value.ref cu1, Value.ref cu2, Value.ref cu3, Value.ref cu4, Value.int (nI sc), Value.int to])), (cu1, Sum.inl (cc1, 8, Sum.inl d1)), (cu2, Sum.inl (cc2, 4, Sum.inl c2)), (cu3, Sum.inl (cc3, 4, Sum.inl c3)), (cu4, Sum.inl (cc4, 4, Sum.inl c4)), (va, Sum.inl (vc, 3, Sum.inl fv))] H → va_D A [(h0, Sum.inr (1, [Value.ref cu1, Value.ref cu2, Value.ref cu3, Value.ref cu4, Value.int (nI sc), Value.int to])), (cu1, Sum.inl (cc1, 8, Sum.inl d1)), (cu2, Sum.inl (cc2, 4, Sum.inl c2)), (cu3, Sum.inl (cc3, 4, Sum.inl c3)), (cu4, Sum.inl (cc4, 4, Sum.inl c4)), (va, Sum.inl (vc, 3, Sum.inl fv))] → va_S A s.heap H locs → ∀ ls : Array Slot, lv_has ls 4 [(0, Value.ref h0), (1, Value.ref (en i)), (2, Value.ref va), (3, Value.int (nI t))] → W p l e ({ frames := 1, cells := 0, slots := 0, locals := 21 }) s m args below meth c H locs 0 0 Q (F0 m 30 ls []) := by
  intro n
  induction n with
  | zero => intro d1 t ht hi7 hn3 hsn8 hd1 hn; exact absurd hn (Nat.not_lt_zero _)
  | succ n ih =>
    intro d1 t ht hi7 hn3 hsn8 hd1 hn H locs hP hD hS ls hl
    obtain ⟨hx, hb, hml, hown, hts⟩ := id F
    refine lv_iload_n hx hb dX1_tell_30 rfl (lv_at hl 3 rfl) ?_
    refine lv_aload_n hx hb dX1_tell_31 rfl (lv_at hl 1 rfl) ?_
    refine x_getE hx hb (i := i) hX (by omega) hS hown (q := (RX5, "numbers", "I", enNu)) (List.mem_of_getElem? (i := 1) rfl) rfl (hts _ kw_6_44) dX1_tell_32 ?_
    refine lv_topi (fun z_1 ez_1 => ?_)
    obtain rfl : z_1 = nI (nuN i) := ez_1.trans (enNu_nI i (by omega))
    refine lv_icmp_ge (tgt := 78) hx hb dX1_tell_35 (by decide) (fun c_2 => ?_) (fun c_2 => ?_)
    · skip
      have c_2n : (nuN i) ≤ t := (nI_leI (by omega) (by omega)).mp c_2
      have c_2 := Int32.not_lt.mpr c_2
      exact kx_78 d1 ((show t = nuN i by omega) ▸ hd1) H locs (hP.sub [0, 1, 2, 3, 4, 5] rfl) (hD.sub [0, 1, 2, 3, 4, 5] (by decide) rfl) hS ls (lv_sub hl [] rfl)
    · skip
      have c_2n : t < (nuN i) := nb_le (by omega) (by omega) c_2
      have c_2 := Int32.not_le.mp c_2
      refine lv_iload_n hx hb dX1_tell_38 rfl (lv_at hl 3 rfl) ?_
      refine lv_aload_n hx hb dX1_tell_39 rfl (lv_at hl 2 rfl) ?_
      refine va_alen hx hb hK hP 5 4 rfl rfl (v := 3) rfl dX1_tell_40 ?_
      refine lv_icmp_ge (tgt := 78) hx hb dX1_tell_41 (by decide) (fun c_3 => absurd ((nI_leI (a := 3) (b := t) (by decide) (by omega)).mp c_3) (by omega)) (fun c_3 => ?_)
      have c_3n : t < 3 := nb_le (by omega) (by omega) c_3
      have c_3 := Int32.not_le.mp c_3
      refine lv_aload_n hx hb dX1_tell_44 rfl (lv_at hl 1 rfl) ?_
      refine x_getE hx hb (i := i) hX (by omega) hS hown (q := (RX5, "slot", "I", enSl)) (List.mem_of_getElem? (i := 0) rfl) rfl (hts _ kw_6_40) dX1_tell_45 ?_
      refine lv_topi (fun z_4 ez_4 => ?_)
      obtain rfl : z_4 = nI (slN i) := ez_4.trans (enSl_nI i (by omega))
      refine lv_iload_n hx hb dX1_tell_48 rfl (lv_at hl 3 rfl) ?_
      refine lv_iadd hx hb dX1_tell_49 ?_
      refine lv_topi (fun z_5 ez_5 => ?_)
      obtain rfl : z_5 = nI (slN i + t) := ez_5.trans (nI_add (slN i) t)
      refine lv_aload_n hx hb dX1_tell_50 rfl (lv_at hl 0 rfl) ?_
      refine va_get (D := D) (ci := 1) (v := Value.ref cu1) (C := RX1) (T := TX1) (N := 6) hx hb hts inG_X1 hown hK hP 0 rfl rfl 0 (by decide) (hts _ kw_1_99) (fun _ h9 => h9) rfl dX1_tell_51 ?_
      refine va_alen hx hb hK hP 1 0 rfl rfl (v := 8) rfl dX1_tell_54 ?_
      refine lv_icmp_ge (tgt := 78) hx hb dX1_tell_55 (by decide) (fun c_6 => absurd ((nI_leI (a := 8) (b := slN i + t) (by decide) (by omega)).mp c_6) (by omega)) (fun c_6 => ?_)
      have c_6n : (slN i + t) < 8 := nb_le (by omega) (by omega) c_6
      have c_6 := Int32.not_le.mp c_6
      refine lv_aload_n hx hb dX1_tell_58 rfl (lv_at hl 0 rfl) ?_
      refine va_get (D := D) (ci := 1) (v := Value.ref cu1) (C := RX1) (T := TX1) (N := 6) hx hb hts inG_X1 hown hK hP 0 rfl rfl 0 (by decide) (hts _ kw_1_99) (fun _ h9 => h9) rfl dX1_tell_59 ?_
      refine lv_aload_n hx hb dX1_tell_62 rfl (lv_at hl 1 rfl) ?_
      refine x_getE hx hb (i := i) hX (by omega) hS hown (q := (RX5, "slot", "I", enSl)) (List.mem_of_getElem? (i := 0) rfl) rfl (hts _ kw_6_40) dX1_tell_63 ?_
      refine lv_topi (fun z_7 ez_7 => ?_)
      obtain rfl : z_7 = nI (slN i) := ez_7.trans (enSl_nI i (by omega))
      refine lv_iload_n hx hb dX1_tell_66 rfl (lv_at hl 3 rfl) ?_
      refine lv_iadd hx hb dX1_tell_67 ?_
      refine lv_topi (fun z_8 ez_8 => ?_)
      obtain rfl : z_8 = nI (slN i + t) := ez_8.trans (nI_add (slN i) t)
      refine lv_aload_n hx hb dX1_tell_68 rfl (lv_at hl 2 rfl) ?_
      refine lv_iload_n hx hb dX1_tell_69 rfl (lv_at hl 3 rfl) ?_
      refine m_iald hx hb hK hP 5 4 rfl rfl t rfl (by omega) (by decide) dX1_tell_70 ?_
      refine lv_topi (fun v_9 ev_9 => ?_)
      refine m_iast hx hb hK hP hD hS 1 0 rfl rfl (slN i + t) rfl (by omega) (by decide) dX1_tell_71 (fun g_10 H locs eg_10 hP hD hS => ?_)
      have hP : va_P D vwCl [(h0, Sum.inr (1, [Value.ref cu1, Value.ref cu2, Value.ref cu3, Value.ref cu4, Value.int (nI sc), Value.int to])), (cu1, Sum.inl (cc1, 8, Sum.inl g_10)), (cu2, Sum.inl (cc2, 4, Sum.inl c2)), (cu3, Sum.inl (cc3, 4, Sum.inl c3)), (cu4, Sum.inl (cc4, 4, Sum.inl c4)), (va, Sum.inl (vc, 3, Sum.inl fv))] H := hP
      have hD : va_D A [(h0, Sum.inr (1, [Value.ref cu1, Value.ref cu2, Value.ref cu3, Value.ref cu4, Value.int (nI sc), Value.int to])), (cu1, Sum.inl (cc1, 8, Sum.inl g_10)), (cu2, Sum.inl (cc2, 4, Sum.inl c2)), (cu3, Sum.inl (cc3, 4, Sum.inl c3)), (cu4, Sum.inl (cc4, 4, Sum.inl c4)), (va, Sum.inl (vc, 3, Sum.inl fv))] := hD
      refine lv_iinc (v := nI (t + 1)) (lv' := [(3, Value.int (nI (t + 1))), (0, Value.ref h0), (1, Value.ref (en i)), (2, Value.ref va)]) hx hb dX1_tell_72 hl (k := 3) rfl (nI_add t 1) (by decide) rfl (fun ls hl => ?_)
      refine lv_goto (tgt := 30) hx hb dX1_tell_75 (by decide) ?_
      exact ih g_10 (t + 1) (by omega) (by omega) hn3 hsn8 (tell_s hd1 ev_9 eg_10) (by omega) H locs (hP.sub [0, 1, 2, 3, 4, 5] rfl) (hD.sub [0, 1, 2, 3, 4, 5] (by decide) rfl) hS ls (lv_sub hl [1, 2, 3, 0] rfl)
set_option maxHeartbeats 4000000 in
set_option maxRecDepth 100000 in
theorem p_tell (l : Launch) (D : va_G) (en : Nat → Nat) (h0 : Nat) (cu1 : Nat) (cu2 : Nat) (cu3 : Nat) (cu4 : Nat) (va : Nat) (cc1 : ClassId) (cc2 : ClassId) (cc3 : ClassId) (cc4 : ClassId) (vc : ClassId) (fv : Nat → Int32) (i : Nat) (c1 : Nat → Int32) (c2 : Nat → Int32) (c3 : Nat → Int32) (c4 : Nat → Int32) (sc : Nat) (to : Int32) (hi7 : i < 7) (hs6 : i = 6 → sc < 4) : cV l yX1_tell (.code yX1_tell cX1_tell 4 none) ({ frames := 1, cells := 0, slots := 0, locals := 21 }) D [(cc1, .int), (cc2, .int), (cc3, .int), (cc4, .int), (vc, .int)] [(h0, Sum.inr (1, [Value.ref cu1, Value.ref cu2, Value.ref cu3, Value.ref cu4, Value.int (nI sc), Value.int to])), (cu1, Sum.inl (cc1, 8, Sum.inl c1)), (cu2, Sum.inl (cc2, 4, Sum.inl c2)), (cu3, Sum.inl (cc3, 4, Sum.inl c3)), (cu4, Sum.inl (cc4, 4, Sum.inl c4)), (va, Sum.inl (vc, 3, Sum.inl fv))] (xN en) [Value.ref h0, Value.ref (en i), Value.ref va] (S := Nat × Int32 × (Nat → Int32) × (Nat → Int32) × (Nat → Int32) × (Nat → Int32)) (fun u => match u with | (sc1, to1, d1, d2, d3, d4) => (i = 6 ∧ sc1 = sc + 1 ∧ to1 = to ∧ d1 = c1 ∧ d2 = upd c2 sc (fv 0) ∧ d3 = upd c3 sc (fv 1) ∧ d4 = upd c4 sc (fv 2) ∧ sc < 4) ∨ (¬ i = 6 ∧ sc1 = sc ∧ d2 = c2 ∧ d3 = c3 ∧ d4 = c4 ∧ to1 = to ||| bitS i ∧ ∀ q, d1 q = if slN i ≤ q ∧ q < slN i + nuN i then fv (q - slN i) else c1 q)) (fun u => match u with | (sc1, to1, d1, d2, d3, d4) => []) (fun u => match u with | (sc1, to1, d1, d2, d3, d4) => [(h0, Sum.inr (1, [Value.ref cu1, Value.ref cu2, Value.ref cu3, Value.ref cu4, Value.int (nI sc1), Value.int to1])), (cu1, Sum.inl (cc1, 8, Sum.inl d1)), (cu2, Sum.inl (cc2, 4, Sum.inl d2)), (cu3, Sum.inl (cc3, 4, Sum.inl d3)), (cu4, Sum.inl (cc4, 4, Sum.inl d4)), (va, Sum.inl (vc, 3, Sum.inl fv))]) := by
  intro sz
  refine Met.ofW (cc := cX1_tell) (maxL := 4) (ret := none) (by decide) rfl ?_
  intro p e s m args below meth c s₁ B hml hv
  obtain ⟨rfl, hsz, hP, hK, hD0, hX⟩ := hv
  have hx := B.exec
  have hb := B.bytes
  have hr := B.returns
  have hts0 := atoms_spec (ws := .code yX1_tell cX1_tell 4 none :: gw) B.pre
  have hts := fun (w : Cond) (h : w ∈ gw) => hts0 w (List.mem_cons_of_mem _ h)
  have hown : s.vm.findClass RX1 = some m.cls := findClass_of_methodNamed B.named
  have hlocks := B.notSynchronized
  have F : mFix p s m _ c cX1_tell 4 RX1 := ⟨hx, hb, hml, hown, hts⟩
  subst hsz
  have hD := hD0.self (sz := s.heap.size)
  generalize hAe : va_A [(h0, Sum.inr (1, [Value.ref cu1, Value.ref cu2, Value.ref cu3, Value.ref cu4, Value.int (nI sc), Value.int to])), (cu1, Sum.inl (cc1, 8, Sum.inl c1)), (cu2, Sum.inl (cc2, 4, Sum.inl c2)), (cu3, Sum.inl (cc3, 4, Sum.inl c3)), (cu4, Sum.inl (cc4, 4, Sum.inl c4)), (va, Sum.inl (vc, 3, Sum.inl fv))] s.heap.size = A at hD hX ⊢
  have hA : ∀ q : Nat, s.heap.size ≤ q → A q := fun q h => by rw [← hAe]; exact Or.inr h
  have hS : va_S A s.heap s.heap [] := va_S.rf
  have hl := lv_entry ([Value.ref h0, Value.ref (en i), Value.ref va]) (n := 4) (Nat.le_of_ble_eq_true rfl)
  rw [lg_entry_eq]
  generalize (lg_sl ([Value.ref h0, Value.ref (en i), Value.ref va]) ++ List.replicate (4 - (lg_sl ([Value.ref h0, Value.ref (en i), Value.ref va])).length) Slot.unset).toArray = ls at hl ⊢
  have hl : lv_has ls 4 [(0, Value.ref h0), (1, Value.ref (en i)), (2, Value.ref va)] := hl
  have hP : va_P D vwCl [(h0, Sum.inr (1, [Value.ref cu1, Value.ref cu2, Value.ref cu3, Value.ref cu4, Value.int (nI sc), Value.int to])), (cu1, Sum.inl (cc1, 8, Sum.inl c1)), (cu2, Sum.inl (cc2, 4, Sum.inl c2)), (cu3, Sum.inl (cc3, 4, Sum.inl c3)), (cu4, Sum.inl (cc4, 4, Sum.inl c4)), (va, Sum.inl (vc, 3, Sum.inl fv))] s.heap := hP
  refine lv_aload_n hx hb dX1_tell_0 rfl (lv_at hl 1 rfl) ?_
  refine va_gets hx hb (C := RX5) (n := "STAIR") ((hX).1 6 (by decide)).1 hS hown (hts _ kw_2_220) (fun _ h9 => h9) dX1_tell_1 ?_
  refine x_acmp_ne (tgt := 13) hx hb dX1_tell_4 (by decide) (fun c_1 => ?_) (fun c_1 => ?_)
  · skip
    have hi6 : ¬ i = 6 := fun h => c_1 (by rw [h])
    refine lv_aload_n hx hb dX1_tell_13 rfl (lv_at hl 0 rfl) ?_
    refine lv_dup hx hb dX1_tell_14 rfl ?_
    refine va_get (D := D) (ci := 1) (v := Value.int to) (C := RX1) (T := TX1) (N := 6) hx hb hts inG_X1 hown hK hP 0 rfl rfl 5 (by decide) (hts _ kw_1_110) (fun _ h9 => h9) rfl dX1_tell_15 ?_
    refine lv_iconst (v := 1) hx hb dX1_tell_18 (by decide) ?_
    refine lv_aload_n hx hb dX1_tell_19 rfl (lv_at hl 1 rfl) ?_
    refine x_getE hx hb (i := i) hX (by omega) hS hown (q := (RX5, "slot", "I", enSl)) (List.mem_of_getElem? (i := 0) rfl) rfl (hts _ kw_6_40) dX1_tell_20 ?_
    refine lv_topi (fun z_2 ez_2 => ?_)
    obtain rfl : z_2 = nI (slN i) := ez_2.trans (enSl_nI i (by omega))
    refine lv_ishl hx hb dX1_tell_23 ?_
    refine lv_topi (fun z_3 ez_3 => ?_)
    refine lv_ior hx hb dX1_tell_24 ?_
    refine lv_topi (fun z_4 ez_4 => ?_)
    refine va_put (D := D) (ci := 1) (v := Value.int z_4) (ty := .int) (C := RX1) (T := TX1) (N := 6) hx hb hts inG_X1 tyX1 tyX1_ok nmX1 hown hK hP hD hS 0 rfl rfl 5 (by decide) (hts _ kw_1_110) (fun _ h9 => h9) rfl (by decide +kernel) rfl rfl (Nat.le_of_ble_eq_true rfl) dX1_tell_25 (fun H locs hP hD hS => ?_)
    have hP : va_P D vwCl [(h0, Sum.inr (1, [Value.ref cu1, Value.ref cu2, Value.ref cu3, Value.ref cu4, Value.int (nI sc), Value.int z_4])), (cu1, Sum.inl (cc1, 8, Sum.inl c1)), (cu2, Sum.inl (cc2, 4, Sum.inl c2)), (cu3, Sum.inl (cc3, 4, Sum.inl c3)), (cu4, Sum.inl (cc4, 4, Sum.inl c4)), (va, Sum.inl (vc, 3, Sum.inl fv))] H := hP
    have hD : va_D A [(h0, Sum.inr (1, [Value.ref cu1, Value.ref cu2, Value.ref cu3, Value.ref cu4, Value.int (nI sc), Value.int z_4])), (cu1, Sum.inl (cc1, 8, Sum.inl c1)), (cu2, Sum.inl (cc2, 4, Sum.inl c2)), (cu3, Sum.inl (cc3, 4, Sum.inl c3)), (cu4, Sum.inl (cc4, 4, Sum.inl c4)), (va, Sum.inl (vc, 3, Sum.inl fv))] := hD
    refine lv_iconst (v := 0) hx hb dX1_tell_28 (by decide) ?_
    refine lv_istore_n (lv' := [(3, Value.int 0), (0, Value.ref h0), (1, Value.ref (en i)), (2, Value.ref va)]) hx hb dX1_tell_29 rfl hl (by decide) rfl (fun ls hl => ?_)
    refine lp_p_tell F hA en h0 cu1 cu2 cu3 cu4 va cc1 cc2 cc3 cc4 vc fv i c1 c2 c3 c4 sc z_4 (hK.sub [0, 1, 2, 3, 4] rfl) hX (fun d1_5 h_6 H locs hP hD hS ls hl => ?_) _ c1 0 (by omega) (by omega) (nuN_le i hi7) (sl_nu i hi7 hi6) (fun q => by rw [if_neg (by omega)]) (Nat.lt_succ_self _) _ _ (hP.sub [0, 1, 2, 3, 4, 5] rfl) (hD.sub [0, 1, 2, 3, 4, 5] (by decide) rfl) hS ls (lv_sub hl [1, 2, 3, 0] rfl)
    have h_6 : ∀ q, d1_5 q = if slN i ≤ q ∧ q < slN i + nuN i then fv (q - slN i) else c1 q := h_6
    have hP9 := hP.sub (ws' := [(h0, Sum.inr (1, [Value.ref cu1, Value.ref cu2, Value.ref cu3, Value.ref cu4, Value.int (nI sc), Value.int z_4])), (cu1, Sum.inl (cc1, 8, Sum.inl d1_5)), (cu2, Sum.inl (cc2, 4, Sum.inl c2)), (cu3, Sum.inl (cc3, 4, Sum.inl c3)), (cu4, Sum.inl (cc4, 4, Sum.inl c4)), (va, Sum.inl (vc, 3, Sum.inl fv))]) [0, 1, 2, 3, 4, 5] rfl
    have hD9 := hD.sub (ws' := [(h0, Sum.inr (1, [Value.ref cu1, Value.ref cu2, Value.ref cu3, Value.ref cu4, Value.int (nI sc), Value.int z_4])), (cu1, Sum.inl (cc1, 8, Sum.inl d1_5)), (cu2, Sum.inl (cc2, 4, Sum.inl c2)), (cu3, Sum.inl (cc3, 4, Sum.inl c3)), (cu4, Sum.inl (cc4, 4, Sum.inl c4)), (va, Sum.inl (vc, 3, Sum.inl fv))]) [0, 1, 2, 3, 4, 5] (by decide) rfl
    have hK9 := hK.sub (tys' := []) [] rfl
    refine W.widen (k := 0) (n := 0) (by decide) (by decide) ?_
    exact W.vret hx hb hr (fun t ht hW => ⟨⟨(sc, z_4, d1_5, c2, c3, c4), rfl, Or.inr ⟨hi6, rfl, rfl, rfl, rfl, (by rw [ez_4, ez_3]; rfl), h_6⟩, by rw [ht]; exact hP9, va_K.moved hW.alike hK9, hD9⟩, hS.F ht⟩) hS.2.2 dX1_tell_78
  · skip
    have hi6 : i = 6 := x_ne hX hi7 (by decide) c_1
    have hs4 := hs6 hi6
    refine lv_aload_n hx hb dX1_tell_7 rfl (lv_at hl 0 rfl) ?_
    refine lv_aload_n hx hb dX1_tell_8 rfl (lv_at hl 2 rfl) ?_
    refine mc_Vv (rest := []) (wr := [(cu1, Sum.inl (cc1, 8, Sum.inl c1))]) F hK hP hD hS hA (p_addStair l D h0 cu1 cu2 cu3 cu4 va cc2 cc3 cc4 vc c2 c3 c4 fv sc to (by omega)) ⟨gk_X1_52.1, gk_X1_52.2, Nat.le_of_ble_eq_true rfl, Nat.le_of_ble_eq_true rfl⟩ [0, 2, 3, 4, 5] [1] [1, 2, 3, 4] ⟨rfl, rfl, rfl, rfl, by decide⟩ rfl xT_move (fun _ _ _ => trivial) 0 rfl rfl rfl hl.1 rfl (Nat.le_of_ble_eq_true rfl) dX1_tell_9 ⟨Nat.le_of_ble_eq_true rfl, Nat.le_of_ble_eq_true rfl⟩ (fun u H locs hw hK1 hP hD hS => ?_)
    obtain ⟨d2_7, d3_8, d4_9⟩ := u
    have hP : va_P D vwCl [(cu1, Sum.inl (cc1, 8, Sum.inl c1)), (h0, Sum.inr (1, [Value.ref cu1, Value.ref cu2, Value.ref cu3, Value.ref cu4, Value.int (nI (sc + 1)), Value.int to])), (cu2, Sum.inl (cc2, 4, Sum.inl d2_7)), (cu3, Sum.inl (cc3, 4, Sum.inl d3_8)), (cu4, Sum.inl (cc4, 4, Sum.inl d4_9)), (va, Sum.inl (vc, 3, Sum.inl fv))] H := hP
    have hD : va_D A [(cu1, Sum.inl (cc1, 8, Sum.inl c1)), (h0, Sum.inr (1, [Value.ref cu1, Value.ref cu2, Value.ref cu3, Value.ref cu4, Value.int (nI (sc + 1)), Value.int to])), (cu2, Sum.inl (cc2, 4, Sum.inl d2_7)), (cu3, Sum.inl (cc3, 4, Sum.inl d3_8)), (cu4, Sum.inl (cc4, 4, Sum.inl d4_9)), (va, Sum.inl (vc, 3, Sum.inl fv))] := hD
    have hw_11 : d2_7 = upd c2 sc (fv 0) ∧ d3_8 = upd c3 sc (fv 1) ∧ d4_9 = upd c4 sc (fv 2) := hw
    have hP9 := hP.sub (ws' := [(h0, Sum.inr (1, [Value.ref cu1, Value.ref cu2, Value.ref cu3, Value.ref cu4, Value.int (nI (sc + 1)), Value.int to])), (cu1, Sum.inl (cc1, 8, Sum.inl c1)), (cu2, Sum.inl (cc2, 4, Sum.inl d2_7)), (cu3, Sum.inl (cc3, 4, Sum.inl d3_8)), (cu4, Sum.inl (cc4, 4, Sum.inl d4_9)), (va, Sum.inl (vc, 3, Sum.inl fv))]) [1, 0, 2, 3, 4, 5] rfl
    have hD9 := hD.sub (ws' := [(h0, Sum.inr (1, [Value.ref cu1, Value.ref cu2, Value.ref cu3, Value.ref cu4, Value.int (nI (sc + 1)), Value.int to])), (cu1, Sum.inl (cc1, 8, Sum.inl c1)), (cu2, Sum.inl (cc2, 4, Sum.inl d2_7)), (cu3, Sum.inl (cc3, 4, Sum.inl d3_8)), (cu4, Sum.inl (cc4, 4, Sum.inl d4_9)), (va, Sum.inl (vc, 3, Sum.inl fv))]) [1, 0, 2, 3, 4, 5] (by decide) rfl
    have hK9 := hK.sub (tys' := []) [] rfl
    refine W.widen (k := 0) (n := 0) (by decide) (by decide) ?_
    exact W.vret hx hb hr (fun t ht hW => ⟨⟨(sc + 1, to, c1, d2_7, d3_8, d4_9), rfl, Or.inl ⟨hi6, rfl, rfl, rfl, hw_11.1, hw_11.2.1, hw_11.2.2, hs4⟩, by rw [ht]; exact hP9, va_K.moved hW.alike hK9, hD9⟩, hS.F ht⟩) hS.2.2 dX1_tell_12
