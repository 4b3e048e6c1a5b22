set_option maxHeartbeats 4000000 in
set_option maxRecDepth 100000 in
theorem c_signAt (l : Launch) (D : va_G) (h0 : Nat) (va : Nat) (tx : Nat) (fk : Int32) (fp : Int32) (ln : Int32) (nx : Int32) (tk : Int32) (st : Int32) (vl : Int32) (tc : ClassId) (ft : Nat → Int32) (x : Int32) : cI l yX2_signAt (.code yX2_signAt cX2_signAt 2 (some .int)) ({ frames := 0, cells := 0, slots := 0, locals := 0 }) D [(tc, .int)] [(h0, Sum.inr (2, [Value.int fk, Value.int fp, Value.ref va, Value.ref tx, Value.int ln, Value.int nx, Value.int tk, Value.int st, Value.int vl])), (tx, Sum.inl (tc, 400, Sum.inl ft))] xT [Value.ref h0, Value.int x] (S := Unit) (fun r _ => r = r) (fun _ => []) (fun _ => [(h0, Sum.inr (2, [Value.int fk, Value.int fp, Value.ref va, Value.ref tx, Value.int ln, Value.int nx, Value.int tk, Value.int st, Value.int vl])), (tx, Sum.inl (tc, 400, Sum.inl ft))]) := by
  intro sz
  refine Met.ofW (cc := cX2_signAt) (maxL := 2) (ret := (some .int)) (by decide) rfl ?_
  intro p e s m args below meth c s₁ B hml hv
  obtain ⟨rfl, hsz, hP, hK, hD0, hX⟩ := hv
  have hx := B.exec
  have hb := B.bytes
  have hr := B.returns
  have hts0 := atoms_spec (ws := .code yX2_signAt cX2_signAt 2 (some .int) :: gw) B.pre
  have hts := fun (w : Cond) (h : w ∈ gw) => hts0 w (List.mem_cons_of_mem _ h)
  have hown : s.vm.findClass RX2 = some m.cls := findClass_of_methodNamed B.named
  have hlocks := B.notSynchronized
  have F : mFix p s m _ c cX2_signAt 2 RX2 := ⟨hx, hb, hml, hown, hts⟩
  subst hsz
  have hD := hD0.self (sz := s.heap.size)
  generalize hAe : va_A [(h0, Sum.inr (2, [Value.int fk, Value.int fp, Value.ref va, Value.ref tx, Value.int ln, Value.int nx, Value.int tk, Value.int st, Value.int vl])), (tx, Sum.inl (tc, 400, Sum.inl ft))] s.heap.size = A at hD hX ⊢
  have hA : ∀ q : Nat, s.heap.size ≤ q → A q := fun q h => by rw [← hAe]; exact Or.inr h
  have hS : va_S A s.heap s.heap [] := va_S.rf
  have hl := lv_entry ([Value.ref h0, Value.int x]) (n := 2) (Nat.le_of_ble_eq_true rfl)
  rw [lg_entry_eq]
  generalize (lg_sl ([Value.ref h0, Value.int x]) ++ List.replicate (2 - (lg_sl ([Value.ref h0, Value.int x])).length) Slot.unset).toArray = ls at hl ⊢
  have hl : lv_has ls 2 [(0, Value.ref h0), (1, Value.int x)] := hl
  have hP : va_P D vwCl [(h0, Sum.inr (2, [Value.int fk, Value.int fp, Value.ref va, Value.ref tx, Value.int ln, Value.int nx, Value.int tk, Value.int st, Value.int vl])), (tx, Sum.inl (tc, 400, Sum.inl ft))] s.heap := hP
  refine lv_iload_n hx hb dX2_signAt_0 rfl (lv_at hl 1 rfl) ?_
  refine lv_if_lt (tgt := 30) hx hb dX2_signAt_1 (by decide) (fun c_1 => ?_) (fun c_1 => ?_)
  · skip
    refine lv_iconst (v := -1) hx hb dX2_signAt_30 (by decide) ?_
    have hP9 := hP.sub (ws' := [(h0, Sum.inr (2, [Value.int fk, Value.int fp, Value.ref va, Value.ref tx, Value.int ln, Value.int nx, Value.int tk, Value.int st, Value.int vl])), (tx, Sum.inl (tc, 400, Sum.inl ft))]) [0, 1] rfl
    have hD9 := hD.sub (ws' := [(h0, Sum.inr (2, [Value.int fk, Value.int fp, Value.ref va, Value.ref tx, Value.int ln, Value.int nx, Value.int tk, Value.int st, Value.int vl])), (tx, Sum.inl (tc, 400, Sum.inl ft))]) [0, 1] (by decide) rfl
    have hK9 := hK.sub (tys' := []) [] rfl
    refine W.widen (k := 0) (n := 0) (by decide) (by decide) ?_
    exact W.iret (v := (-1)) hx hb hr (fun t ht hW => ⟨⟨((-1)), (), rfl, rfl, by rw [ht]; exact hP9, va_K.moved hW.alike hK9, hD9⟩, hS.F ht⟩) hS.2.2 dX2_signAt_31
  · skip
    refine lv_iload_n hx hb dX2_signAt_4 rfl (lv_at hl 1 rfl) ?_
    refine lv_aload_n hx hb dX2_signAt_5 rfl (lv_at hl 0 rfl) ?_
    refine va_get (D := D) (ci := 2) (v := Value.int ln) (C := RX2) (T := TX2) (N := 9) hx hb hts inG_X2 hown hK hP 0 rfl rfl 4 (by decide) (hts _ kw_1_60) (fun _ h9 => h9) rfl dX2_signAt_6 ?_
    refine lv_icmp_ge (tgt := 30) hx hb dX2_signAt_9 (by decide) (fun c_2 => ?_) (fun c_2 => ?_)
    · skip
      have c_2 := Int32.not_lt.mpr c_2
      refine lv_iconst (v := -1) hx hb dX2_signAt_30 (by decide) ?_
      have hP9 := hP.sub (ws' := [(h0, Sum.inr (2, [Value.int fk, Value.int fp, Value.ref va, Value.ref tx, Value.int ln, Value.int nx, Value.int tk, Value.int st, Value.int vl])), (tx, Sum.inl (tc, 400, Sum.inl ft))]) [0, 1] rfl
      have hD9 := hD.sub (ws' := [(h0, Sum.inr (2, [Value.int fk, Value.int fp, Value.ref va, Value.ref tx, Value.int ln, Value.int nx, Value.int tk, Value.int st, Value.int vl])), (tx, Sum.inl (tc, 400, Sum.inl ft))]) [0, 1] (by decide) rfl
      have hK9 := hK.sub (tys' := []) [] rfl
      refine W.widen (k := 0) (n := 0) (by decide) (by decide) ?_
      exact W.iret (v := (-1)) hx hb hr (fun t ht hW => ⟨⟨((-1)), (), rfl, rfl, by rw [ht]; exact hP9, va_K.moved hW.alike hK9, hD9⟩, hS.F ht⟩) hS.2.2 dX2_signAt_31
    · skip
      have c_2 := Int32.not_le.mp c_2
      refine lv_iload_n hx hb dX2_signAt_12 rfl (lv_at hl 1 rfl) ?_
      refine lv_aload_n hx hb dX2_signAt_13 rfl (lv_at hl 0 rfl) ?_
      refine va_get (D := D) (ci := 2) (v := Value.ref tx) (C := RX2) (T := TX2) (N := 9) hx hb hts inG_X2 hown hK hP 0 rfl rfl 3 (by decide) (hts _ kw_1_59) (fun _ h9 => h9) rfl dX2_signAt_14 ?_
      refine va_alen hx hb hK hP 1 0 rfl rfl (v := 400) rfl dX2_signAt_17 ?_
      refine lv_icmp_ge (tgt := 30) hx hb dX2_signAt_18 (by decide) (fun c_3 => ?_) (fun c_3 => ?_)
      · skip
        have c_3 := Int32.not_lt.mpr c_3
        refine lv_iconst (v := -1) hx hb dX2_signAt_30 (by decide) ?_
        have hP9 := hP.sub (ws' := [(h0, Sum.inr (2, [Value.int fk, Value.int fp, Value.ref va, Value.ref tx, Value.int ln, Value.int nx, Value.int tk, Value.int st, Value.int vl])), (tx, Sum.inl (tc, 400, Sum.inl ft))]) [0, 1] rfl
        have hD9 := hD.sub (ws' := [(h0, Sum.inr (2, [Value.int fk, Value.int fp, Value.ref va, Value.ref tx, Value.int ln, Value.int nx, Value.int tk, Value.int st, Value.int vl])), (tx, Sum.inl (tc, 400, Sum.inl ft))]) [0, 1] (by decide) rfl
        have hK9 := hK.sub (tys' := []) [] rfl
        refine W.widen (k := 0) (n := 0) (by decide) (by decide) ?_
        exact W.iret (v := (-1)) hx hb hr (fun t ht hW => ⟨⟨((-1)), (), rfl, rfl, by rw [ht]; exact hP9, va_K.moved hW.alike hK9, hD9⟩, hS.F ht⟩) hS.2.2 dX2_signAt_31
      · skip
        have c_3 := Int32.not_le.mp c_3
        obtain ⟨jx, hjx, ejx⟩ := n_lt (N := 400) c_1 (Int32.not_le.mpr c_3) (by decide)
        subst ejx
        have hl : lv_has ls 2 [(0, Value.ref h0), (1, Value.int (nI jx))] := hl
        refine lv_aload_n hx hb dX2_signAt_21 rfl (lv_at hl 0 rfl) ?_
        refine va_get (D := D) (ci := 2) (v := Value.ref tx) (C := RX2) (T := TX2) (N := 9) hx hb hts inG_X2 hown hK hP 0 rfl rfl 3 (by decide) (hts _ kw_1_59) (fun _ h9 => h9) rfl dX2_signAt_22 ?_
        refine lv_iload_n hx hb dX2_signAt_25 rfl (lv_at hl 1 rfl) ?_
        refine m_iald hx hb hK hP 1 0 rfl rfl jx rfl (by omega) (by decide) dX2_signAt_26 ?_
        refine lv_topi (fun v_4 ev_4 => ?_)
        refine lv_goto (tgt := 31) hx hb dX2_signAt_27 (by decide) ?_
        have hP9 := hP.sub (ws' := [(h0, Sum.inr (2, [Value.int fk, Value.int fp, Value.ref va, Value.ref tx, Value.int ln, Value.int nx, Value.int tk, Value.int st, Value.int vl])), (tx, Sum.inl (tc, 400, Sum.inl ft))]) [0, 1] rfl
        have hD9 := hD.sub (ws' := [(h0, Sum.inr (2, [Value.int fk, Value.int fp, Value.ref va, Value.ref tx, Value.int ln, Value.int nx, Value.int tk, Value.int st, Value.int vl])), (tx, Sum.inl (tc, 400, Sum.inl ft))]) [0, 1] (by decide) rfl
        have hK9 := hK.sub (tys' := []) [] rfl
        refine W.widen (k := 0) (n := 0) (by decide) (by decide) ?_
        exact W.iret (v := v_4) hx hb hr (fun t ht hW => ⟨⟨v_4, (), rfl, rfl, by rw [ht]; exact hP9, va_K.moved hW.alike hK9, hD9⟩, hS.F ht⟩) hS.2.2 dX2_signAt_31
set_option maxHeartbeats 4000000 in
set_option maxRecDepth 100000 in
theorem c_isBlank (l : Launch) (D : va_G) (x : Int32) : cI l yX2_isBlank (.code yX2_isBlank cX2_isBlank 1 (some .boolean)) ({ frames := 0, cells := 0, slots := 0, locals := 0 }) D [] [] xT [Value.int x] (S := Unit) (fun r _ => r = 0 ∨ r = 1) (fun _ => []) (fun _ => []) := by
  intro sz
  refine Met.ofW (cc := cX2_isBlank) (maxL := 1) (ret := (some .boolean)) (by decide) rfl ?_
  intro p e s m args below meth c s₁ B hml hv
  obtain ⟨rfl, hsz, hP, hK, hD0, hX⟩ := hv
  have hx := B.exec
  have hb := B.bytes
  have hr := B.returns
  have hts0 := atoms_spec (ws := .code yX2_isBlank cX2_isBlank 1 (some .boolean) :: gw) B.pre
  have hts := fun (w : Cond) (h : w ∈ gw) => hts0 w (List.mem_cons_of_mem _ h)
  have hown : s.vm.findClass RX2 = some m.cls := findClass_of_methodNamed B.named
  have hlocks := B.notSynchronized
  have F : mFix p s m _ c cX2_isBlank 1 RX2 := ⟨hx, hb, hml, hown, hts⟩
  subst hsz
  have hD := hD0.self (sz := s.heap.size)
  generalize hAe : va_A [] s.heap.size = A at hD hX ⊢
  have hA : ∀ q : Nat, s.heap.size ≤ q → A q := fun q h => by rw [← hAe]; exact Or.inr h
  have hS : va_S A s.heap s.heap [] := va_S.rf
  have hl := lv_entry ([Value.int x]) (n := 1) (Nat.le_of_ble_eq_true rfl)
  rw [lg_entry_eq]
  generalize (lg_sl ([Value.int x]) ++ List.replicate (1 - (lg_sl ([Value.int x])).length) Slot.unset).toArray = ls at hl ⊢
  have hl : lv_has ls 1 [(0, Value.int x)] := hl
  have hP : va_P D vwCl [] s.heap := hP
  refine lv_iload_n hx hb dX2_isBlank_0 rfl (lv_at hl 0 rfl) ?_
  refine lv_bipush (v := 10) hx hb dX2_isBlank_1 (by decide) ?_
  refine lv_icmp_eq (tgt := 12) hx hb dX2_isBlank_3 (by decide) (fun c_1 => ?_) (fun c_1 => ?_)
  · skip
    refine lv_iconst (v := 1) hx hb dX2_isBlank_12 (by decide) ?_
    refine lv_goto (tgt := 17) hx hb dX2_isBlank_13 (by decide) ?_
    have hP9 := hP.sub (ws' := []) [] rfl
    have hD9 := hD.sub (ws' := []) [] (by decide) rfl
    have hK9 := hK.sub (tys' := []) [] rfl
    refine W.widen (k := 0) (n := 0) (by decide) (by decide) ?_
    exact W.zret (v := 1) hx hb hr rfl (fun t ht hW => ⟨⟨1, (), rfl, Or.inr rfl, by rw [ht]; exact hP9, va_K.moved hW.alike hK9, hD9⟩, hS.F ht⟩) hS.2.2 dX2_isBlank_17
  · skip
    refine lv_iload_n hx hb dX2_isBlank_6 rfl (lv_at hl 0 rfl) ?_
    refine lv_bipush (v := 32) hx hb dX2_isBlank_7 (by decide) ?_
    refine lv_icmp_ne (tgt := 16) hx hb dX2_isBlank_9 (by decide) (fun c_2 => ?_) (fun c_2 => ?_)
    · skip
      refine lv_iconst (v := 0) hx hb dX2_isBlank_16 (by decide) ?_
      have hP9 := hP.sub (ws' := []) [] rfl
      have hD9 := hD.sub (ws' := []) [] (by decide) rfl
      have hK9 := hK.sub (tys' := []) [] rfl
      refine W.widen (k := 0) (n := 0) (by decide) (by decide) ?_
      exact W.zret (v := 0) hx hb hr rfl (fun t ht hW => ⟨⟨0, (), rfl, Or.inl rfl, by rw [ht]; exact hP9, va_K.moved hW.alike hK9, hD9⟩, hS.F ht⟩) hS.2.2 dX2_isBlank_17
    · skip
      refine lv_iconst (v := 1) hx hb dX2_isBlank_12 (by decide) ?_
      refine lv_goto (tgt := 17) hx hb dX2_isBlank_13 (by decide) ?_
      have hP9 := hP.sub (ws' := []) [] rfl
      have hD9 := hD.sub (ws' := []) [] (by decide) rfl
      have hK9 := hK.sub (tys' := []) [] rfl
      refine W.widen (k := 0) (n := 0) (by decide) (by decide) ?_
      exact W.zret (v := 1) hx hb hr rfl (fun t ht hW => ⟨⟨1, (), rfl, Or.inr rfl, by rw [ht]; exact hP9, va_K.moved hW.alike hK9, hD9⟩, hS.F ht⟩) hS.2.2 dX2_isBlank_17
set_option maxHeartbeats 4000000 in
set_option maxRecDepth 100000 in
theorem c_isLetter (l : Launch) (D : va_G) (x : Int32) : cI l yX2_isLetter (.code yX2_isLetter cX2_isLetter 1 (some .boolean)) ({ frames := 0, cells := 0, slots := 0, locals := 0 }) D [] [] xT [Value.int x] (S := Unit) (fun r _ => r = 0 ∨ r = 1) (fun _ => []) (fun _ => []) := by
  intro sz
  refine Met.ofW (cc := cX2_isLetter) (maxL := 1) (ret := (some .boolean)) (by decide) rfl ?_
  intro p e s m args below meth c s₁ B hml hv
  obtain ⟨rfl, hsz, hP, hK, hD0, hX⟩ := hv
  have hx := B.exec
  have hb := B.bytes
  have hr := B.returns
  have hts0 := atoms_spec (ws := .code yX2_isLetter cX2_isLetter 1 (some .boolean) :: gw) B.pre
  have hts := fun (w : Cond) (h : w ∈ gw) => hts0 w (List.mem_cons_of_mem _ h)
  have hown : s.vm.findClass RX2 = some m.cls := findClass_of_methodNamed B.named
  have hlocks := B.notSynchronized
  have F : mFix p s m _ c cX2_isLetter 1 RX2 := ⟨hx, hb, hml, hown, hts⟩
  subst hsz
  have hD := hD0.self (sz := s.heap.size)
  generalize hAe : va_A [] s.heap.size = A at hD hX ⊢
  have hA : ∀ q : Nat, s.heap.size ≤ q → A q := fun q h => by rw [← hAe]; exact Or.inr h
  have hS : va_S A s.heap s.heap [] := va_S.rf
  have hl := lv_entry ([Value.int x]) (n := 1) (Nat.le_of_ble_eq_true rfl)
  rw [lg_entry_eq]
  generalize (lg_sl ([Value.int x]) ++ List.replicate (1 - (lg_sl ([Value.int x])).length) Slot.unset).toArray = ls at hl ⊢
  have hl : lv_has ls 1 [(0, Value.int x)] := hl
  have hP : va_P D vwCl [] s.heap := hP
  refine lv_iload_n hx hb dX2_isLetter_0 rfl (lv_at hl 0 rfl) ?_
  refine lv_bipush (v := 97) hx hb dX2_isLetter_1 (by decide) ?_
  refine lv_icmp_lt (tgt := 16) hx hb dX2_isLetter_3 (by decide) (fun c_1 => ?_) (fun c_1 => ?_)
  · skip
    refine lv_iconst (v := 0) hx hb dX2_isLetter_16 (by decide) ?_
    have hP9 := hP.sub (ws' := []) [] rfl
    have hD9 := hD.sub (ws' := []) [] (by decide) rfl
    have hK9 := hK.sub (tys' := []) [] rfl
    refine W.widen (k := 0) (n := 0) (by decide) (by decide) ?_
    exact W.zret (v := 0) hx hb hr rfl (fun t ht hW => ⟨⟨0, (), rfl, Or.inl rfl, by rw [ht]; exact hP9, va_K.moved hW.alike hK9, hD9⟩, hS.F ht⟩) hS.2.2 dX2_isLetter_17
  · skip
    refine lv_iload_n hx hb dX2_isLetter_6 rfl (lv_at hl 0 rfl) ?_
    refine lv_bipush (v := 122) hx hb dX2_isLetter_7 (by decide) ?_
    refine lv_icmp_gt (tgt := 16) hx hb dX2_isLetter_9 (by decide) (fun c_2 => ?_) (fun c_2 => ?_)
    · skip
      refine lv_iconst (v := 0) hx hb dX2_isLetter_16 (by decide) ?_
      have hP9 := hP.sub (ws' := []) [] rfl
      have hD9 := hD.sub (ws' := []) [] (by decide) rfl
      have hK9 := hK.sub (tys' := []) [] rfl
      refine W.widen (k := 0) (n := 0) (by decide) (by decide) ?_
      exact W.zret (v := 0) hx hb hr rfl (fun t ht hW => ⟨⟨0, (), rfl, Or.inl rfl, by rw [ht]; exact hP9, va_K.moved hW.alike hK9, hD9⟩, hS.F ht⟩) hS.2.2 dX2_isLetter_17
    · skip
      refine lv_iconst (v := 1) hx hb dX2_isLetter_12 (by decide) ?_
      refine lv_goto (tgt := 17) hx hb dX2_isLetter_13 (by decide) ?_
      have hP9 := hP.sub (ws' := []) [] rfl
      have hD9 := hD.sub (ws' := []) [] (by decide) rfl
      have hK9 := hK.sub (tys' := []) [] rfl
      refine W.widen (k := 0) (n := 0) (by decide) (by decide) ?_
      exact W.zret (v := 1) hx hb hr rfl (fun t ht hW => ⟨⟨1, (), rfl, Or.inr rfl, by rw [ht]; exact hP9, va_K.moved hW.alike hK9, hD9⟩, hS.F ht⟩) hS.2.2 dX2_isLetter_17
set_option maxHeartbeats 4000000 in
set_option maxRecDepth 100000 in
theorem c_isDigit (l : Launch) (D : va_G) (x : Int32) : cI l yX2_isDigit (.code yX2_isDigit cX2_isDigit 1 (some .boolean)) ({ frames := 0, cells := 0, slots := 0, locals := 0 }) D [] [] xT [Value.int x] (S := Unit) (fun r _ => r = 0 ∨ r = 1) (fun _ => []) (fun _ => []) := by
  intro sz
  refine Met.ofW (cc := cX2_isDigit) (maxL := 1) (ret := (some .boolean)) (by decide) rfl ?_
  intro p e s m args below meth c s₁ B hml hv
  obtain ⟨rfl, hsz, hP, hK, hD0, hX⟩ := hv
  have hx := B.exec
  have hb := B.bytes
  have hr := B.returns
  have hts0 := atoms_spec (ws := .code yX2_isDigit cX2_isDigit 1 (some .boolean) :: gw) B.pre
  have hts := fun (w : Cond) (h : w ∈ gw) => hts0 w (List.mem_cons_of_mem _ h)
  have hown : s.vm.findClass RX2 = some m.cls := findClass_of_methodNamed B.named
  have hlocks := B.notSynchronized
  have F : mFix p s m _ c cX2_isDigit 1 RX2 := ⟨hx, hb, hml, hown, hts⟩
  subst hsz
  have hD := hD0.self (sz := s.heap.size)
  generalize hAe : va_A [] s.heap.size = A at hD hX ⊢
  have hA : ∀ q : Nat, s.heap.size ≤ q → A q := fun q h => by rw [← hAe]; exact Or.inr h
  have hS : va_S A s.heap s.heap [] := va_S.rf
  have hl := lv_entry ([Value.int x]) (n := 1) (Nat.le_of_ble_eq_true rfl)
  rw [lg_entry_eq]
  generalize (lg_sl ([Value.int x]) ++ List.replicate (1 - (lg_sl ([Value.int x])).length) Slot.unset).toArray = ls at hl ⊢
  have hl : lv_has ls 1 [(0, Value.int x)] := hl
  have hP : va_P D vwCl [] s.heap := hP
  refine lv_iload_n hx hb dX2_isDigit_0 rfl (lv_at hl 0 rfl) ?_
  refine lv_bipush (v := 48) hx hb dX2_isDigit_1 (by decide) ?_
  refine lv_icmp_lt (tgt := 16) hx hb dX2_isDigit_3 (by decide) (fun c_1 => ?_) (fun c_1 => ?_)
  · skip
    refine lv_iconst (v := 0) hx hb dX2_isDigit_16 (by decide) ?_
    have hP9 := hP.sub (ws' := []) [] rfl
    have hD9 := hD.sub (ws' := []) [] (by decide) rfl
    have hK9 := hK.sub (tys' := []) [] rfl
    refine W.widen (k := 0) (n := 0) (by decide) (by decide) ?_
    exact W.zret (v := 0) hx hb hr rfl (fun t ht hW => ⟨⟨0, (), rfl, Or.inl rfl, by rw [ht]; exact hP9, va_K.moved hW.alike hK9, hD9⟩, hS.F ht⟩) hS.2.2 dX2_isDigit_17
  · skip
    refine lv_iload_n hx hb dX2_isDigit_6 rfl (lv_at hl 0 rfl) ?_
    refine lv_bipush (v := 57) hx hb dX2_isDigit_7 (by decide) ?_
    refine lv_icmp_gt (tgt := 16) hx hb dX2_isDigit_9 (by decide) (fun c_2 => ?_) (fun c_2 => ?_)
    · skip
      refine lv_iconst (v := 0) hx hb dX2_isDigit_16 (by decide) ?_
      have hP9 := hP.sub (ws' := []) [] rfl
      have hD9 := hD.sub (ws' := []) [] (by decide) rfl
      have hK9 := hK.sub (tys' := []) [] rfl
      refine W.widen (k := 0) (n := 0) (by decide) (by decide) ?_
      exact W.zret (v := 0) hx hb hr rfl (fun t ht hW => ⟨⟨0, (), rfl, Or.inl rfl, by rw [ht]; exact hP9, va_K.moved hW.alike hK9, hD9⟩, hS.F ht⟩) hS.2.2 dX2_isDigit_17
    · skip
      refine lv_iconst (v := 1) hx hb dX2_isDigit_12 (by decide) ?_
      refine lv_goto (tgt := 17) hx hb dX2_isDigit_13 (by decide) ?_
      have hP9 := hP.sub (ws' := []) [] rfl
      have hD9 := hD.sub (ws' := []) [] (by decide) rfl
      have hK9 := hK.sub (tys' := []) [] rfl
      refine W.widen (k := 0) (n := 0) (by decide) (by decide) ?_
      exact W.zret (v := 1) hx hb hr rfl (fun t ht hW => ⟨⟨1, (), rfl, Or.inr rfl, by rw [ht]; exact hP9, va_K.moved hW.alike hK9, hD9⟩, hS.F ht⟩) hS.2.2 dX2_isDigit_17
set_option maxHeartbeats 4000000 in
set_option maxRecDepth 100000 in
theorem c_refuse (l : Launch) (D : va_G) (h0 : Nat) (va : Nat) (tx : Nat) (fk : Int32) (fp : Int32) (ln : Int32) (nx : Int32) (tk : Int32) (st : Int32) (vl : Int32) (x : Int32) (y : Int32) : cI l yX2_refuse (.code yX2_refuse cX2_refuse 3 (some .boolean)) ({ frames := 0, cells := 0, slots := 0, locals := 0 }) D [] [(h0, Sum.inr (2, [Value.int fk, Value.int fp, Value.ref va, Value.ref tx, Value.int ln, Value.int nx, Value.int tk, Value.int st, Value.int vl]))] xT [Value.ref h0, Value.int x, Value.int y] (S := Unit) (fun r _ => r = 0) (fun _ => []) (fun _ => [(h0, Sum.inr (2, [Value.int x, Value.int y, Value.ref va, Value.ref tx, Value.int ln, Value.int nx, Value.int tk, Value.int st, Value.int vl]))]) := by
  intro sz
  refine Met.ofW (cc := cX2_refuse) (maxL := 3) (ret := (some .boolean)) (by decide) rfl ?_
  intro p e s m args below meth c s₁ B hml hv
  obtain ⟨rfl, hsz, hP, hK, hD0, hX⟩ := hv
  have hx := B.exec
  have hb := B.bytes
  have hr := B.returns
  have hts0 := atoms_spec (ws := .code yX2_refuse cX2_refuse 3 (some .boolean) :: gw) B.pre
  have hts := fun (w : Cond) (h : w ∈ gw) => hts0 w (List.mem_cons_of_mem _ h)
  have hown : s.vm.findClass RX2 = some m.cls := findClass_of_methodNamed B.named
  have hlocks := B.notSynchronized
  have F : mFix p s m _ c cX2_refuse 3 RX2 := ⟨hx, hb, hml, hown, hts⟩
  subst hsz
  have hD := hD0.self (sz := s.heap.size)
  generalize hAe : va_A [(h0, Sum.inr (2, [Value.int fk, Value.int fp, Value.ref va, Value.ref tx, Value.int ln, Value.int nx, Value.int tk, Value.int st, Value.int vl]))] s.heap.size = A at hD hX ⊢
  have hA : ∀ q : Nat, s.heap.size ≤ q → A q := fun q h => by rw [← hAe]; exact Or.inr h
  have hS : va_S A s.heap s.heap [] := va_S.rf
  have hl := lv_entry ([Value.ref h0, Value.int x, Value.int y]) (n := 3) (Nat.le_of_ble_eq_true rfl)
  rw [lg_entry_eq]
  generalize (lg_sl ([Value.ref h0, Value.int x, Value.int y]) ++ List.replicate (3 - (lg_sl ([Value.ref h0, Value.int x, Value.int y])).length) Slot.unset).toArray = ls at hl ⊢
  have hl : lv_has ls 3 [(0, Value.ref h0), (1, Value.int x), (2, Value.int y)] := hl
  have hP : va_P D vwCl [(h0, Sum.inr (2, [Value.int fk, Value.int fp, Value.ref va, Value.ref tx, Value.int ln, Value.int nx, Value.int tk, Value.int st, Value.int vl]))] s.heap := hP
  refine lv_aload_n hx hb dX2_refuse_0 rfl (lv_at hl 0 rfl) ?_
  refine lv_iload_n hx hb dX2_refuse_1 rfl (lv_at hl 1 rfl) ?_
  refine va_put (D := D) (ci := 2) (v := Value.int x) (ty := .int) (C := RX2) (T := TX2) (N := 9) hx hb hts inG_X2 tyX2 tyX2_ok nmX2 hown hK hP hD hS 0 rfl rfl 0 (by decide) (hts _ kw_1_54) (fun _ h9 => h9) rfl (by decide +kernel) rfl rfl (Nat.le_of_ble_eq_true rfl) dX2_refuse_2 (fun H locs hP hD hS => ?_)
  have hP : va_P D vwCl [(h0, Sum.inr (2, [Value.int x, Value.int fp, Value.ref va, Value.ref tx, Value.int ln, Value.int nx, Value.int tk, Value.int st, Value.int vl]))] H := hP
  have hD : va_D A [(h0, Sum.inr (2, [Value.int x, Value.int fp, Value.ref va, Value.ref tx, Value.int ln, Value.int nx, Value.int tk, Value.int st, Value.int vl]))] := hD
  refine lv_aload_n hx hb dX2_refuse_5 rfl (lv_at hl 0 rfl) ?_
  refine lv_iload_n hx hb dX2_refuse_6 rfl (lv_at hl 2 rfl) ?_
  refine va_put (D := D) (ci := 2) (v := Value.int y) (ty := .int) (C := RX2) (T := TX2) (N := 9) hx hb hts inG_X2 tyX2 tyX2_ok nmX2 hown hK hP hD hS 0 rfl rfl 1 (by decide) (hts _ kw_1_56) (fun _ h9 => h9) rfl (by decide +kernel) rfl rfl (Nat.le_of_ble_eq_true rfl) dX2_refuse_7 (fun H locs hP hD hS => ?_)
  have hP : va_P D vwCl [(h0, Sum.inr (2, [Value.int x, Value.int y, Value.ref va, Value.ref tx, Value.int ln, Value.int nx, Value.int tk, Value.int st, Value.int vl]))] H := hP
  have hD : va_D A [(h0, Sum.inr (2, [Value.int x, Value.int y, Value.ref va, Value.ref tx, Value.int ln, Value.int nx, Value.int tk, Value.int st, Value.int vl]))] := hD
  refine lv_iconst (v := 0) hx hb dX2_refuse_10 (by decide) ?_
  have hP9 := hP.sub (ws' := [(h0, Sum.inr (2, [Value.int x, Value.int y, Value.ref va, Value.ref tx, Value.int ln, Value.int nx, Value.int tk, Value.int st, Value.int vl]))]) [0] rfl
  have hD9 := hD.sub (ws' := [(h0, Sum.inr (2, [Value.int x, Value.int y, Value.ref va, Value.ref tx, Value.int ln, Value.int nx, Value.int tk, Value.int st, Value.int vl]))]) [0] (by decide) rfl
  have hK9 := hK.sub (tys' := []) [] rfl
  refine W.widen (k := 0) (n := 0) (by decide) (by decide) ?_
  exact W.zret (v := 0) hx hb hr rfl (fun t ht hW => ⟨⟨0, (), rfl, rfl, by rw [ht]; exact hP9, va_K.moved hW.alike hK9, hD9⟩, hS.F ht⟩) hS.2.2 dX2_refuse_11
set_option maxHeartbeats 4000000 in
set_option maxRecDepth 100000 in
theorem lp_takeWord {p : Program} {l : Launch} {e : Env} {s : State} {m : MethodId} {args : Array Value} {below : List Frame} {meth : Method} {c : Code} {Q : State → Prop} {A : Nat → Prop} {D : va_G} (F : mFix p s m args c cX2_takeWord 1 RX2) (hA : ∀ q, s.heap.size ≤ q → A q) (h0 : Nat) (va : Nat) (tx : Nat) (fk : Int32) (fp : Int32) (ln : Int32) (tk : Int32) (st : Int32) (vl : Int32) (tc : ClassId) (ft : Nat → Int32) (hK : va_K D vwCl [(tc, .int)] s)
    (kx_43 : ∀ (nx : Int32), ∀ (H : Heap) (locs : List Loc), va_P D vwCl [(h0, Sum.inr (2, [Value.int fk, Value.int fp, Value.ref va, Value.ref tx, Value.int ln, Value.int nx, Value.int tk, Value.int st, Value.int vl])), (tx, Sum.inl (tc, 400, Sum.inl ft))] H → va_D A [(h0, Sum.inr (2, [Value.int fk, Value.int fp, Value.ref va, Value.ref tx, Value.int ln, Value.int nx, Value.int tk, Value.int st, Value.int vl])), (tx, Sum.inl (tc, 400, Sum.inl ft))] → va_S A s.heap H locs → ∀ ls : Array Slot, lv_has ls 1 [] → W p l e ({ frames := 1, cells := 0, slots := 0, locals := 21 }) s m args below meth c H locs 0 0 Q (F0 m 43 ls [])) :
    ∀ n : Nat, ∀ (nx : Int32), ((ln.toInt - nx.toInt).toNat) < n → ∀ (H : Heap) (locs : List Loc), va_P D vwCl [(h0, Sum.inr (2, [Value.int fk, Value.int fp, Value.ref va, Value.ref tx, Value.int ln, Value.int nx, Value.int tk, Value.int st, Value.int vl])), (tx, Sum.inl (tc, 400, Sum.inl ft))] H → va_D A [(h0, Sum.inr (2, [Value.int fk, Value.int fp, Value.ref va, Value.ref tx, Value.int ln, Value.int nx, Value.int tk, Value.int st, Value.int vl])), (tx, Sum.inl (tc, 400, Sum.inl ft))] → va_S A s.heap H locs → ∀ ls : Array Slot, lv_has ls 1 [(0, Value.ref h0)] → W p l e ({ frames := 1, cells := 0, slots := 0, locals := 21 }) s m args below meth c H locs 0 0 Q (F0 m 5 ls []) := by
  intro n
  induction n with
  | zero => intro nx  hn; exact absurd hn (Nat.not_lt_zero _)
  | succ n ih =>
    intro nx  hn H locs hP hD hS ls hl
    obtain ⟨hx, hb, hml, hown, hts⟩ := id F
    refine lv_aload_n hx hb dX2_takeWord_5 rfl (lv_at hl 0 rfl) ?_
    refine va_get (D := D) (ci := 2) (v := Value.int nx) (C := RX2) (T := TX2) (N := 9) hx hb hts inG_X2 hown hK hP 0 rfl rfl 5 (by decide) (hts _ kw_1_61) (fun _ h9 => h9) rfl dX2_takeWord_6 ?_
    refine lv_aload_n hx hb dX2_takeWord_9 rfl (lv_at hl 0 rfl) ?_
    refine va_get (D := D) (ci := 2) (v := Value.int ln) (C := RX2) (T := TX2) (N := 9) hx hb hts inG_X2 hown hK hP 0 rfl rfl 4 (by decide) (hts _ kw_1_60) (fun _ h9 => h9) rfl dX2_takeWord_10 ?_
    refine lv_icmp_ge (tgt := 43) hx hb dX2_takeWord_13 (by decide) (fun c_1 => ?_) (fun c_1 => ?_)
    · skip
      have c_1 := Int32.not_lt.mpr c_1
      exact kx_43 nx  H locs (hP.sub [0, 1] rfl) (hD.sub [0, 1] (by decide) rfl) hS ls (lv_sub hl [] rfl)
    · skip
      have c_1 := Int32.not_le.mp c_1
      refine lv_aload_n hx hb dX2_takeWord_16 rfl (lv_at hl 0 rfl) ?_
      refine lv_aload_n hx hb dX2_takeWord_17 rfl (lv_at hl 0 rfl) ?_
      refine va_get (D := D) (ci := 2) (v := Value.int nx) (C := RX2) (T := TX2) (N := 9) hx hb hts inG_X2 hown hK hP 0 rfl rfl 5 (by decide) (hts _ kw_1_61) (fun _ h9 => h9) rfl dX2_takeWord_18 ?_
      refine mc_Vi (rest := []) (wr := []) F hK hP hD hS hA (c_signAt l D h0 va tx fk fp ln nx tk st vl tc ft nx ) ⟨gk_X2_107.1, gk_X2_107.2, Nat.le_of_ble_eq_true rfl, Nat.le_of_ble_eq_true rfl⟩ [0, 1] [] [0] ⟨rfl, rfl, rfl, rfl, by decide⟩ rfl xT_move (fun _ _ _ => trivial) 0 rfl rfl rfl hl.1 rfl (Nat.le_of_ble_eq_true rfl) dX2_takeWord_21 ⟨Nat.le_of_ble_eq_true rfl, Nat.le_of_ble_eq_true rfl⟩ (fun r_2 _ H locs hw hK1 hP hD hS => ?_)
      have hP : va_P D vwCl [(h0, Sum.inr (2, [Value.int fk, Value.int fp, Value.ref va, Value.ref tx, Value.int ln, Value.int nx, Value.int tk, Value.int st, Value.int vl])), (tx, Sum.inl (tc, 400, Sum.inl ft))] H := hP
      have hD : va_D A [(h0, Sum.inr (2, [Value.int fk, Value.int fp, Value.ref va, Value.ref tx, Value.int ln, Value.int nx, Value.int tk, Value.int st, Value.int vl])), (tx, Sum.inl (tc, 400, Sum.inl ft))] := hD
      have hw_3 : r_2 = r_2 := hw
      refine mc_Si (rest := []) (wr := [(h0, Sum.inr (2, [Value.int fk, Value.int fp, Value.ref va, Value.ref tx, Value.int ln, Value.int nx, Value.int tk, Value.int st, Value.int vl])), (tx, Sum.inl (tc, 400, Sum.inl ft))]) F hK hP hD hS hA (c_isLetter l D r_2 ) ⟨gk_X2_119.1, gk_X2_119.2, Nat.le_of_ble_eq_true rfl, Nat.le_of_ble_eq_true rfl⟩ [] [0, 1] [] ⟨rfl, rfl, rfl, rfl, by decide⟩ rfl xT_move (fun _ _ _ => trivial) rfl hl.1 rfl (Nat.le_of_ble_eq_true rfl) dX2_takeWord_24 ⟨Nat.le_of_ble_eq_true rfl, Nat.le_of_ble_eq_true rfl⟩ (fun r_4 _ H locs hw hK1 hP hD hS => ?_)
      have hP : va_P D vwCl [(h0, Sum.inr (2, [Value.int fk, Value.int fp, Value.ref va, Value.ref tx, Value.int ln, Value.int nx, Value.int tk, Value.int st, Value.int vl])), (tx, Sum.inl (tc, 400, Sum.inl ft))] H := hP
      have hD : va_D A [(h0, Sum.inr (2, [Value.int fk, Value.int fp, Value.ref va, Value.ref tx, Value.int ln, Value.int nx, Value.int tk, Value.int st, Value.int vl])), (tx, Sum.inl (tc, 400, Sum.inl ft))] := hD
      have hw_5 : r_4 = 0 ∨ r_4 = 1 := hw
      refine lv_if_eq (tgt := 43) hx hb dX2_takeWord_27 (by decide) (fun c_6 => ?_) (fun c_6 => ?_)
      · skip
        exact kx_43 nx  H locs (hP.sub [0, 1] rfl) (hD.sub [0, 1] (by decide) rfl) hS ls (lv_sub hl [] rfl)
      · skip
        refine lv_aload_n hx hb dX2_takeWord_30 rfl (lv_at hl 0 rfl) ?_
        refine lv_dup hx hb dX2_takeWord_31 rfl ?_
        refine va_get (D := D) (ci := 2) (v := Value.int nx) (C := RX2) (T := TX2) (N := 9) hx hb hts inG_X2 hown hK hP 0 rfl rfl 5 (by decide) (hts _ kw_1_61) (fun _ h9 => h9) rfl dX2_takeWord_32 ?_
        refine lv_iconst (v := 1) hx hb dX2_takeWord_35 (by decide) ?_
        refine lv_iadd hx hb dX2_takeWord_36 ?_
        refine lv_topi (fun z_7 ez_7 => ?_)
        refine va_put (D := D) (ci := 2) (v := Value.int z_7) (ty := .int) (C := RX2) (T := TX2) (N := 9) hx hb hts inG_X2 tyX2 tyX2_ok nmX2 hown hK hP hD hS 0 rfl rfl 5 (by decide) (hts _ kw_1_61) (fun _ h9 => h9) rfl (by decide +kernel) rfl rfl (Nat.le_of_ble_eq_true rfl) dX2_takeWord_37 (fun H locs hP hD hS => ?_)
        have hP : va_P D vwCl [(h0, Sum.inr (2, [Value.int fk, Value.int fp, Value.ref va, Value.ref tx, Value.int ln, Value.int z_7, Value.int tk, Value.int st, Value.int vl])), (tx, Sum.inl (tc, 400, Sum.inl ft))] H := hP
        have hD : va_D A [(h0, Sum.inr (2, [Value.int fk, Value.int fp, Value.ref va, Value.ref tx, Value.int ln, Value.int z_7, Value.int tk, Value.int st, Value.int vl])), (tx, Sum.inl (tc, 400, Sum.inl ft))] := hD
        refine lv_goto (tgt := 5) hx hb dX2_takeWord_40 (by decide) ?_
        exact ih z_7  (Nat.lt_of_lt_of_le (by rw [ez_7]; exact inc_lt c_1) (Nat.le_of_lt_succ hn)) H locs (hP.sub [0, 1] rfl) (hD.sub [0, 1] (by decide) rfl) hS ls (lv_sub hl [0] rfl)
set_option maxHeartbeats 4000000 in
set_option maxRecDepth 100000 in
theorem c_takeWord (l : Launch) (D : va_G) (h0 : Nat) (va : Nat) (tx : Nat) (fk : Int32) (fp : Int32) (ln : Int32) (nx : Int32) (tk : Int32) (st : Int32) (vl : Int32) (tc : ClassId) (ft : Nat → Int32) : cV l yX2_takeWord (.code yX2_takeWord cX2_takeWord 1 none) ({ frames := 1, cells := 0, slots := 0, locals := 21 }) D [(tc, .int)] [(h0, Sum.inr (2, [Value.int fk, Value.int fp, Value.ref va, Value.ref tx, Value.int ln, Value.int nx, Value.int tk, Value.int st, Value.int vl])), (tx, Sum.inl (tc, 400, Sum.inl ft))] xT [Value.ref h0] (S := Int32) (fun u => match u with | nx1 => True) (fun u => match u with | nx1 => []) (fun u => match u with | nx1 => [(h0, Sum.inr (2, [Value.int fk, Value.int fp, Value.ref va, Value.ref tx, Value.int ln, Value.int nx1, Value.int 1, Value.int st, Value.int vl])), (tx, Sum.inl (tc, 400, Sum.inl ft))]) := by
  intro sz
  refine Met.ofW (cc := cX2_takeWord) (maxL := 1) (ret := none) (by decide) rfl ?_
  intro p e s m args below meth c s₁ B hml hv
  obtain ⟨rfl, hsz, hP, hK, hD0, hX⟩ := hv
  have hx := B.exec
  have hb := B.bytes
  have hr := B.returns
  have hts0 := atoms_spec (ws := .code yX2_takeWord cX2_takeWord 1 none :: gw) B.pre
  have hts := fun (w : Cond) (h : w ∈ gw) => hts0 w (List.mem_cons_of_mem _ h)
  have hown : s.vm.findClass RX2 = some m.cls := findClass_of_methodNamed B.named
  have hlocks := B.notSynchronized
  have F : mFix p s m _ c cX2_takeWord 1 RX2 := ⟨hx, hb, hml, hown, hts⟩
  subst hsz
  have hD := hD0.self (sz := s.heap.size)
  generalize hAe : va_A [(h0, Sum.inr (2, [Value.int fk, Value.int fp, Value.ref va, Value.ref tx, Value.int ln, Value.int nx, Value.int tk, Value.int st, Value.int vl])), (tx, Sum.inl (tc, 400, Sum.inl ft))] s.heap.size = A at hD hX ⊢
  have hA : ∀ q : Nat, s.heap.size ≤ q → A q := fun q h => by rw [← hAe]; exact Or.inr h
  have hS : va_S A s.heap s.heap [] := va_S.rf
  have hl := lv_entry ([Value.ref h0]) (n := 1) (Nat.le_of_ble_eq_true rfl)
  rw [lg_entry_eq]
  generalize (lg_sl ([Value.ref h0]) ++ List.replicate (1 - (lg_sl ([Value.ref h0])).length) Slot.unset).toArray = ls at hl ⊢
  have hl : lv_has ls 1 [(0, Value.ref h0)] := hl
  have hP : va_P D vwCl [(h0, Sum.inr (2, [Value.int fk, Value.int fp, Value.ref va, Value.ref tx, Value.int ln, Value.int nx, Value.int tk, Value.int st, Value.int vl])), (tx, Sum.inl (tc, 400, Sum.inl ft))] s.heap := hP
  refine lv_aload_n hx hb dX2_takeWord_0 rfl (lv_at hl 0 rfl) ?_
  refine lv_iconst (v := 1) hx hb dX2_takeWord_1 (by decide) ?_
  refine va_put (D := D) (ci := 2) (v := Value.int 1) (ty := .int) (C := RX2) (T := TX2) (N := 9) hx hb hts inG_X2 tyX2 tyX2_ok nmX2 hown hK hP hD hS 0 rfl rfl 6 (by decide) (hts _ kw_1_62) (fun _ h9 => h9) rfl (by decide +kernel) rfl rfl (Nat.le_of_ble_eq_true rfl) dX2_takeWord_2 (fun H locs hP hD hS => ?_)
  have hP : va_P D vwCl [(h0, Sum.inr (2, [Value.int fk, Value.int fp, Value.ref va, Value.ref tx, Value.int ln, Value.int nx, Value.int 1, Value.int st, Value.int vl])), (tx, Sum.inl (tc, 400, Sum.inl ft))] H := hP
  have hD : va_D A [(h0, Sum.inr (2, [Value.int fk, Value.int fp, Value.ref va, Value.ref tx, Value.int ln, Value.int nx, Value.int 1, Value.int st, Value.int vl])), (tx, Sum.inl (tc, 400, Sum.inl ft))] := hD
  refine lp_takeWord F hA h0 va tx fk fp ln 1 st vl tc ft (hK.sub [0] rfl) (fun nx_1  H locs hP hD hS ls hl => ?_) _ nx  (Nat.lt_succ_self _) _ _ (hP.sub [0, 1] rfl) (hD.sub [0, 1] (by decide) rfl) hS ls (lv_sub hl [0] rfl)
  have hP9 := hP.sub (ws' := [(h0, Sum.inr (2, [Value.int fk, Value.int fp, Value.ref va, Value.ref tx, Value.int ln, Value.int nx_1, Value.int 1, Value.int st, Value.int vl])), (tx, Sum.inl (tc, 400, Sum.inl ft))]) [0, 1] rfl
  have hD9 := hD.sub (ws' := [(h0, Sum.inr (2, [Value.int fk, Value.int fp, Value.ref va, Value.ref tx, Value.int ln, Value.int nx_1, Value.int 1, Value.int st, Value.int vl])), (tx, Sum.inl (tc, 400, Sum.inl ft))]) [0, 1] (by decide) rfl
  have hK9 := hK.sub (tys' := []) [] rfl
  refine W.widen (k := 0) (n := 0) (by decide) (by decide) ?_
  exact W.vret hx hb hr (fun t ht hW => ⟨⟨nx_1, rfl, trivial, by rw [ht]; exact hP9, va_K.moved hW.alike hK9, hD9⟩, hS.F ht⟩) hS.2.2 dX2_takeWord_43
set_option maxHeartbeats 4000000 in
set_option maxRecDepth 100000 in
theorem lp_takeNumber {p : Program} {l : Launch} {e : Env} {s : State} {m : MethodId} {args : Array Value} {below : List Frame} {meth : Method} {c : Code} {Q : State → Prop} {A : Nat → Prop} {D : va_G} (F : mFix p s m args c cX2_takeNumber 1 RX2) (hA : ∀ q, s.heap.size ≤ q → A q) (h0 : Nat) (va : Nat) (tx : Nat) (fk : Int32) (fp : Int32) (ln : Int32) (tk : Int32) (st : Int32) (tc : ClassId) (ft : Nat → Int32) (hK : va_K D vwCl [(tc, .int)] s)
    (kx_77 : ∀ (nx : Int32) (vl : Int32), ∀ (H : Heap) (locs : List Loc), va_P D vwCl [(h0, Sum.inr (2, [Value.int fk, Value.int fp, Value.ref va, Value.ref tx, Value.int ln, Value.int nx, Value.int tk, Value.int st, Value.int vl])), (tx, Sum.inl (tc, 400, Sum.inl ft))] H → va_D A [(h0, Sum.inr (2, [Value.int fk, Value.int fp, Value.ref va, Value.ref tx, Value.int ln, Value.int nx, Value.int tk, Value.int st, Value.int vl])), (tx, Sum.inl (tc, 400, Sum.inl ft))] → va_S A s.heap H locs → ∀ ls : Array Slot, lv_has ls 1 [] → W p l e ({ frames := 1, cells := 0, slots := 0, locals := 60 }) s m args below meth c H locs 0 0 Q (F0 m 77 ls [])) :
    ∀ n : Nat, ∀ (nx : Int32) (vl : Int32), ((ln.toInt - nx.toInt).toNat) < n → ∀ (H : Heap) (locs : List Loc), va_P D vwCl [(h0, Sum.inr (2, [Value.int fk, Value.int fp, Value.ref va, Value.ref tx, Value.int ln, Value.int nx, Value.int tk, Value.int st, Value.int vl])), (tx, Sum.inl (tc, 400, Sum.inl ft))] H → va_D A [(h0, Sum.inr (2, [Value.int fk, Value.int fp, Value.ref va, Value.ref tx, Value.int ln, Value.int nx, Value.int tk, Value.int st, Value.int vl])), (tx, Sum.inl (tc, 400, Sum.inl ft))] → va_S A s.heap H locs → ∀ ls : Array Slot, lv_has ls 1 [(0, Value.ref h0)] → W p l e ({ frames := 1, cells := 0, slots := 0, locals := 60 }) s m args below meth c H locs 0 0 Q (F0 m 10 ls []) := by
  intro n
  induction n with
  | zero => intro nx vl  hn; exact absurd hn (Nat.not_lt_zero _)
  | succ n ih =>
    intro nx vl  hn H locs hP hD hS ls hl
    obtain ⟨hx, hb, hml, hown, hts⟩ := id F
    refine lv_aload_n hx hb dX2_takeNumber_10 rfl (lv_at hl 0 rfl) ?_
    refine va_get (D := D) (ci := 2) (v := Value.int nx) (C := RX2) (T := TX2) (N := 9) hx hb hts inG_X2 hown hK hP 0 rfl rfl 5 (by decide) (hts _ kw_1_61) (fun _ h9 => h9) rfl dX2_takeNumber_11 ?_
    refine lv_aload_n hx hb dX2_takeNumber_14 rfl (lv_at hl 0 rfl) ?_
    refine va_get (D := D) (ci := 2) (v := Value.int ln) (C := RX2) (T := TX2) (N := 9) hx hb hts inG_X2 hown hK hP 0 rfl rfl 4 (by decide) (hts _ kw_1_60) (fun _ h9 => h9) rfl dX2_takeNumber_15 ?_
    refine lv_icmp_ge (tgt := 77) hx hb dX2_takeNumber_18 (by decide) (fun c_1 => ?_) (fun c_1 => ?_)
    · skip
      have c_1 := Int32.not_lt.mpr c_1
      exact kx_77 nx vl  H locs (hP.sub [0, 1] rfl) (hD.sub [0, 1] (by decide) rfl) hS ls (lv_sub hl [] rfl)
    · skip
      have c_1 := Int32.not_le.mp c_1
      refine lv_aload_n hx hb dX2_takeNumber_21 rfl (lv_at hl 0 rfl) ?_
      refine lv_aload_n hx hb dX2_takeNumber_22 rfl (lv_at hl 0 rfl) ?_
      refine va_get (D := D) (ci := 2) (v := Value.int nx) (C := RX2) (T := TX2) (N := 9) hx hb hts inG_X2 hown hK hP 0 rfl rfl 5 (by decide) (hts _ kw_1_61) (fun _ h9 => h9) rfl dX2_takeNumber_23 ?_
      refine mc_Vi (rest := []) (wr := []) F hK hP hD hS hA (c_signAt l D h0 va tx fk fp ln nx tk st vl tc ft nx ) ⟨gk_X2_107.1, gk_X2_107.2, Nat.le_of_ble_eq_true rfl, Nat.le_of_ble_eq_true rfl⟩ [0, 1] [] [0] ⟨rfl, rfl, rfl, rfl, by decide⟩ rfl xT_move (fun _ _ _ => trivial) 0 rfl rfl rfl hl.1 rfl (Nat.le_of_ble_eq_true rfl) dX2_takeNumber_26 ⟨Nat.le_of_ble_eq_true rfl, Nat.le_of_ble_eq_true rfl⟩ (fun r_2 _ H locs hw hK1 hP hD hS => ?_)
      have hP : va_P D vwCl [(h0, Sum.inr (2, [Value.int fk, Value.int fp, Value.ref va, Value.ref tx, Value.int ln, Value.int nx, Value.int tk, Value.int st, Value.int vl])), (tx, Sum.inl (tc, 400, Sum.inl ft))] H := hP
      have hD : va_D A [(h0, Sum.inr (2, [Value.int fk, Value.int fp, Value.ref va, Value.ref tx, Value.int ln, Value.int nx, Value.int tk, Value.int st, Value.int vl])), (tx, Sum.inl (tc, 400, Sum.inl ft))] := hD
      have hw_3 : r_2 = r_2 := hw
      refine mc_Si (rest := []) (wr := [(h0, Sum.inr (2, [Value.int fk, Value.int fp, Value.ref va, Value.ref tx, Value.int ln, Value.int nx, Value.int tk, Value.int st, Value.int vl])), (tx, Sum.inl (tc, 400, Sum.inl ft))]) F hK hP hD hS hA (c_isDigit l D r_2 ) ⟨gk_X2_125.1, gk_X2_125.2, Nat.le_of_ble_eq_true rfl, Nat.le_of_ble_eq_true rfl⟩ [] [0, 1] [] ⟨rfl, rfl, rfl, rfl, by decide⟩ rfl xT_move (fun _ _ _ => trivial) rfl hl.1 rfl (Nat.le_of_ble_eq_true rfl) dX2_takeNumber_29 ⟨Nat.le_of_ble_eq_true rfl, Nat.le_of_ble_eq_true rfl⟩ (fun r_4 _ H locs hw hK1 hP hD hS => ?_)
      have hP : va_P D vwCl [(h0, Sum.inr (2, [Value.int fk, Value.int fp, Value.ref va, Value.ref tx, Value.int ln, Value.int nx, Value.int tk, Value.int st, Value.int vl])), (tx, Sum.inl (tc, 400, Sum.inl ft))] H := hP
      have hD : va_D A [(h0, Sum.inr (2, [Value.int fk, Value.int fp, Value.ref va, Value.ref tx, Value.int ln, Value.int nx, Value.int tk, Value.int st, Value.int vl])), (tx, Sum.inl (tc, 400, Sum.inl ft))] := hD
      have hw_5 : r_4 = 0 ∨ r_4 = 1 := hw
      refine lv_if_eq (tgt := 77) hx hb dX2_takeNumber_32 (by decide) (fun c_6 => ?_) (fun c_6 => ?_)
      · skip
        exact kx_77 nx vl  H locs (hP.sub [0, 1] rfl) (hD.sub [0, 1] (by decide) rfl) hS ls (lv_sub hl [] rfl)
      · skip
        refine lv_aload_n hx hb dX2_takeNumber_35 rfl (lv_at hl 0 rfl) ?_
        refine lv_sipush (v := 1000) hx hb dX2_takeNumber_36 (by decide) ?_
        refine lv_aload_n hx hb dX2_takeNumber_39 rfl (lv_at hl 0 rfl) ?_
        refine va_get (D := D) (ci := 2) (v := Value.int vl) (C := RX2) (T := TX2) (N := 9) hx hb hts inG_X2 hown hK hP 0 rfl rfl 8 (by decide) (hts _ kw_1_64) (fun _ h9 => h9) rfl dX2_takeNumber_40 ?_
        refine lv_bipush (v := 10) hx hb dX2_takeNumber_43 (by decide) ?_
        refine lv_imul hx hb dX2_takeNumber_45 ?_
        refine lv_topi (fun z_7 ez_7 => ?_)
        refine lv_aload_n hx hb dX2_takeNumber_46 rfl (lv_at hl 0 rfl) ?_
        refine lv_aload_n hx hb dX2_takeNumber_47 rfl (lv_at hl 0 rfl) ?_
        refine va_get (D := D) (ci := 2) (v := Value.int nx) (C := RX2) (T := TX2) (N := 9) hx hb hts inG_X2 hown hK hP 0 rfl rfl 5 (by decide) (hts _ kw_1_61) (fun _ h9 => h9) rfl dX2_takeNumber_48 ?_
        refine mc_Vi (rest := [Value.int z_7, Value.int 1000, Value.ref h0]) (wr := []) F hK hP hD hS hA (c_signAt l D h0 va tx fk fp ln nx tk st vl tc ft nx ) ⟨gk_X2_107.1, gk_X2_107.2, Nat.le_of_ble_eq_true rfl, Nat.le_of_ble_eq_true rfl⟩ [0, 1] [] [0] ⟨rfl, rfl, rfl, rfl, by decide⟩ rfl xT_move (fun _ _ _ => trivial) 0 rfl rfl rfl hl.1 rfl (Nat.le_of_ble_eq_true rfl) dX2_takeNumber_51 ⟨Nat.le_of_ble_eq_true rfl, Nat.le_of_ble_eq_true rfl⟩ (fun r_8 _ H locs hw hK1 hP hD hS => ?_)
        have hP : va_P D vwCl [(h0, Sum.inr (2, [Value.int fk, Value.int fp, Value.ref va, Value.ref tx, Value.int ln, Value.int nx, Value.int tk, Value.int st, Value.int vl])), (tx, Sum.inl (tc, 400, Sum.inl ft))] H := hP
        have hD : va_D A [(h0, Sum.inr (2, [Value.int fk, Value.int fp, Value.ref va, Value.ref tx, Value.int ln, Value.int nx, Value.int tk, Value.int st, Value.int vl])), (tx, Sum.inl (tc, 400, Sum.inl ft))] := hD
        have hw_9 : r_8 = r_8 := hw
        refine lv_iadd hx hb dX2_takeNumber_54 ?_
        refine lv_topi (fun z_10 ez_10 => ?_)
        refine lv_bipush (v := 48) hx hb dX2_takeNumber_55 (by decide) ?_
        refine lv_isub hx hb dX2_takeNumber_57 ?_
        refine lv_topi (fun z_11 ez_11 => ?_)
        refine va_mmin hx hb (by rw [hml]; exact hl.1.symm) hown (hts _ kw_2_128) (hts _ kw_2_129) (hts _ kw_1_12) (hts _ kw_2_130) (Nat.le_of_ble_eq_true rfl) (Nat.le_of_ble_eq_true rfl) (Nat.le_of_ble_eq_true rfl) (Nat.le_of_ble_eq_true rfl) dX2_takeNumber_58 ?_
        refine lv_topi (fun z_12 ez_12 => ?_)
        refine va_put (D := D) (ci := 2) (v := Value.int z_12) (ty := .int) (C := RX2) (T := TX2) (N := 9) hx hb hts inG_X2 tyX2 tyX2_ok nmX2 hown hK hP hD hS 0 rfl rfl 8 (by decide) (hts _ kw_1_64) (fun _ h9 => h9) rfl (by decide +kernel) rfl rfl (Nat.le_of_ble_eq_true rfl) dX2_takeNumber_61 (fun H locs hP hD hS => ?_)
        have hP : va_P D vwCl [(h0, Sum.inr (2, [Value.int fk, Value.int fp, Value.ref va, Value.ref tx, Value.int ln, Value.int nx, Value.int tk, Value.int st, Value.int z_12])), (tx, Sum.inl (tc, 400, Sum.inl ft))] H := hP
        have hD : va_D A [(h0, Sum.inr (2, [Value.int fk, Value.int fp, Value.ref va, Value.ref tx, Value.int ln, Value.int nx, Value.int tk, Value.int st, Value.int z_12])), (tx, Sum.inl (tc, 400, Sum.inl ft))] := hD
        refine lv_aload_n hx hb dX2_takeNumber_64 rfl (lv_at hl 0 rfl) ?_
        refine lv_dup hx hb dX2_takeNumber_65 rfl ?_
        refine va_get (D := D) (ci := 2) (v := Value.int nx) (C := RX2) (T := TX2) (N := 9) hx hb hts inG_X2 hown hK hP 0 rfl rfl 5 (by decide) (hts _ kw_1_61) (fun _ h9 => h9) rfl dX2_takeNumber_66 ?_
        refine lv_iconst (v := 1) hx hb dX2_takeNumber_69 (by decide) ?_
        refine lv_iadd hx hb dX2_takeNumber_70 ?_
        refine lv_topi (fun z_13 ez_13 => ?_)
        refine va_put (D := D) (ci := 2) (v := Value.int z_13) (ty := .int) (C := RX2) (T := TX2) (N := 9) hx hb hts inG_X2 tyX2 tyX2_ok nmX2 hown hK hP hD hS 0 rfl rfl 5 (by decide) (hts _ kw_1_61) (fun _ h9 => h9) rfl (by decide +kernel) rfl rfl (Nat.le_of_ble_eq_true rfl) dX2_takeNumber_71 (fun H locs hP hD hS => ?_)
        have hP : va_P D vwCl [(h0, Sum.inr (2, [Value.int fk, Value.int fp, Value.ref va, Value.ref tx, Value.int ln, Value.int z_13, Value.int tk, Value.int st, Value.int z_12])), (tx, Sum.inl (tc, 400, Sum.inl ft))] H := hP
        have hD : va_D A [(h0, Sum.inr (2, [Value.int fk, Value.int fp, Value.ref va, Value.ref tx, Value.int ln, Value.int z_13, Value.int tk, Value.int st, Value.int z_12])), (tx, Sum.inl (tc, 400, Sum.inl ft))] := hD
        refine lv_goto (tgt := 10) hx hb dX2_takeNumber_74 (by decide) ?_
        exact ih z_13 z_12  (Nat.lt_of_lt_of_le (by rw [ez_13]; exact inc_lt c_1) (Nat.le_of_lt_succ hn)) H locs (hP.sub [0, 1] rfl) (hD.sub [0, 1] (by decide) rfl) hS ls (lv_sub hl [0] rfl)
set_option maxHeartbeats 4000000 in
set_option maxRecDepth 100000 in
theorem c_takeNumber (l : Launch) (D : va_G) (h0 : Nat) (va : Nat) (tx : Nat) (fk : Int32) (fp : Int32) (ln : Int32) (nx : Int32) (tk : Int32) (st : Int32) (vl : Int32) (tc : ClassId) (ft : Nat → Int32) : cV l yX2_takeNumber (.code yX2_takeNumber cX2_takeNumber 1 none) ({ frames := 1, cells := 0, slots := 0, locals := 60 }) D [(tc, .int)] [(h0, Sum.inr (2, [Value.int fk, Value.int fp, Value.ref va, Value.ref tx, Value.int ln, Value.int nx, Value.int tk, Value.int st, Value.int vl])), (tx, Sum.inl (tc, 400, Sum.inl ft))] xT [Value.ref h0] (S := Int32 × Int32) (fun u => match u with | (nx1, vl1) => True) (fun u => match u with | (nx1, vl1) => []) (fun u => match u with | (nx1, vl1) => [(h0, Sum.inr (2, [Value.int fk, Value.int fp, Value.ref va, Value.ref tx, Value.int ln, Value.int nx1, Value.int 2, Value.int st, Value.int vl1])), (tx, Sum.inl (tc, 400, Sum.inl ft))]) := by
  intro sz
  refine Met.ofW (cc := cX2_takeNumber) (maxL := 1) (ret := none) (by decide) rfl ?_
  intro p e s m args below meth c s₁ B hml hv
  obtain ⟨rfl, hsz, hP, hK, hD0, hX⟩ := hv
  have hx := B.exec
  have hb := B.bytes
  have hr := B.returns
  have hts0 := atoms_spec (ws := .code yX2_takeNumber cX2_takeNumber 1 none :: gw) B.pre
  have hts := fun (w : Cond) (h : w ∈ gw) => hts0 w (List.mem_cons_of_mem _ h)
  have hown : s.vm.findClass RX2 = some m.cls := findClass_of_methodNamed B.named
  have hlocks := B.notSynchronized
  have F : mFix p s m _ c cX2_takeNumber 1 RX2 := ⟨hx, hb, hml, hown, hts⟩
  subst hsz
  have hD := hD0.self (sz := s.heap.size)
  generalize hAe : va_A [(h0, Sum.inr (2, [Value.int fk, Value.int fp, Value.ref va, Value.ref tx, Value.int ln, Value.int nx, Value.int tk, Value.int st, Value.int vl])), (tx, Sum.inl (tc, 400, Sum.inl ft))] s.heap.size = A at hD hX ⊢
  have hA : ∀ q : Nat, s.heap.size ≤ q → A q := fun q h => by rw [← hAe]; exact Or.inr h
  have hS : va_S A s.heap s.heap [] := va_S.rf
  have hl := lv_entry ([Value.ref h0]) (n := 1) (Nat.le_of_ble_eq_true rfl)
  rw [lg_entry_eq]
  generalize (lg_sl ([Value.ref h0]) ++ List.replicate (1 - (lg_sl ([Value.ref h0])).length) Slot.unset).toArray = ls at hl ⊢
  have hl : lv_has ls 1 [(0, Value.ref h0)] := hl
  have hP : va_P D vwCl [(h0, Sum.inr (2, [Value.int fk, Value.int fp, Value.ref va, Value.ref tx, Value.int ln, Value.int nx, Value.int tk, Value.int st, Value.int vl])), (tx, Sum.inl (tc, 400, Sum.inl ft))] s.heap := hP
  refine lv_aload_n hx hb dX2_takeNumber_0 rfl (lv_at hl 0 rfl) ?_
  refine lv_iconst (v := 2) hx hb dX2_takeNumber_1 (by decide) ?_
  refine va_put (D := D) (ci := 2) (v := Value.int 2) (ty := .int) (C := RX2) (T := TX2) (N := 9) hx hb hts inG_X2 tyX2 tyX2_ok nmX2 hown hK hP hD hS 0 rfl rfl 6 (by decide) (hts _ kw_1_62) (fun _ h9 => h9) rfl (by decide +kernel) rfl rfl (Nat.le_of_ble_eq_true rfl) dX2_takeNumber_2 (fun H locs hP hD hS => ?_)
  have hP : va_P D vwCl [(h0, Sum.inr (2, [Value.int fk, Value.int fp, Value.ref va, Value.ref tx, Value.int ln, Value.int nx, Value.int 2, Value.int st, Value.int vl])), (tx, Sum.inl (tc, 400, Sum.inl ft))] H := hP
  have hD : va_D A [(h0, Sum.inr (2, [Value.int fk, Value.int fp, Value.ref va, Value.ref tx, Value.int ln, Value.int nx, Value.int 2, Value.int st, Value.int vl])), (tx, Sum.inl (tc, 400, Sum.inl ft))] := hD
  refine lv_aload_n hx hb dX2_takeNumber_5 rfl (lv_at hl 0 rfl) ?_
  refine lv_iconst (v := 0) hx hb dX2_takeNumber_6 (by decide) ?_
  refine va_put (D := D) (ci := 2) (v := Value.int 0) (ty := .int) (C := RX2) (T := TX2) (N := 9) hx hb hts inG_X2 tyX2 tyX2_ok nmX2 hown hK hP hD hS 0 rfl rfl 8 (by decide) (hts _ kw_1_64) (fun _ h9 => h9) rfl (by decide +kernel) rfl rfl (Nat.le_of_ble_eq_true rfl) dX2_takeNumber_7 (fun H locs hP hD hS => ?_)
  have hP : va_P D vwCl [(h0, Sum.inr (2, [Value.int fk, Value.int fp, Value.ref va, Value.ref tx, Value.int ln, Value.int nx, Value.int 2, Value.int st, Value.int 0])), (tx, Sum.inl (tc, 400, Sum.inl ft))] H := hP
  have hD : va_D A [(h0, Sum.inr (2, [Value.int fk, Value.int fp, Value.ref va, Value.ref tx, Value.int ln, Value.int nx, Value.int 2, Value.int st, Value.int 0])), (tx, Sum.inl (tc, 400, Sum.inl ft))] := hD
  refine lp_takeNumber F hA h0 va tx fk fp ln 2 st tc ft (hK.sub [0] rfl) (fun nx_1 vl_2  H locs hP hD hS ls hl => ?_) _ nx 0  (Nat.lt_succ_self _) _ _ (hP.sub [0, 1] rfl) (hD.sub [0, 1] (by decide) rfl) hS ls (lv_sub hl [0] rfl)
  have hP9 := hP.sub (ws' := [(h0, Sum.inr (2, [Value.int fk, Value.int fp, Value.ref va, Value.ref tx, Value.int ln, Value.int nx_1, Value.int 2, Value.int st, Value.int vl_2])), (tx, Sum.inl (tc, 400, Sum.inl ft))]) [0, 1] rfl
  have hD9 := hD.sub (ws' := [(h0, Sum.inr (2, [Value.int fk, Value.int fp, Value.ref va, Value.ref tx, Value.int ln, Value.int nx_1, Value.int 2, Value.int st, Value.int vl_2])), (tx, Sum.inl (tc, 400, Sum.inl ft))]) [0, 1] (by decide) rfl
  have hK9 := hK.sub (tys' := []) [] rfl
  refine W.widen (k := 0) (n := 0) (by decide) (by decide) ?_
  exact W.vret hx hb hr (fun t ht hW => ⟨⟨(nx_1, vl_2), rfl, trivial, by rw [ht]; exact hP9, va_K.moved hW.alike hK9, hD9⟩, hS.F ht⟩) hS.2.2 dX2_takeNumber_77
set_option maxHeartbeats 4000000 in
set_option maxRecDepth 100000 in
theorem lp_takeToken {p : Program} {l : Launch} {e : Env} {s : State} {m : MethodId} {args : Array Value} {below : List Frame} {meth : Method} {c : Code} {Q : State → Prop} {A : Nat → Prop} {D : va_G} (F : mFix p s m args c cX2_takeToken 1 RX2) (hA : ∀ q, s.heap.size ≤ q → A q) (h0 : Nat) (va : Nat) (tx : Nat) (fk : Int32) (fp : Int32) (ln : Int32) (tk : Int32) (st : Int32) (vl : Int32) (tc : ClassId) (ft : Nat → Int32) (hK : va_K D vwCl [(tc, .int)] s)
    (kx_38 : ∀ (nx : Int32), ∀ (H : Heap) (locs : List Loc), va_P D vwCl [(h0, Sum.inr (2, [Value.int fk, Value.int fp, Value.ref va, Value.ref tx, Value.int ln, Value.int nx, Value.int tk, Value.int st, Value.int vl])), (tx, Sum.inl (tc, 400, Sum.inl ft))] H → va_D A [(h0, Sum.inr (2, [Value.int fk, Value.int fp, Value.ref va, Value.ref tx, Value.int ln, Value.int nx, Value.int tk, Value.int st, Value.int vl])), (tx, Sum.inl (tc, 400, Sum.inl ft))] → va_S A s.heap H locs → ∀ ls : Array Slot, lv_has ls 1 [(0, Value.ref h0)] → W p l e ({ frames := 2, cells := 0, slots := 0, locals := 80 }) s m args below meth c H locs 0 0 Q (F0 m 38 ls [])) :
    ∀ n : Nat, ∀ (nx : Int32), ((ln.toInt - nx.toInt).toNat) < n → ∀ (H : Heap) (locs : List Loc), va_P D vwCl [(h0, Sum.inr (2, [Value.int fk, Value.int fp, Value.ref va, Value.ref tx, Value.int ln, Value.int nx, Value.int tk, Value.int st, Value.int vl])), (tx, Sum.inl (tc, 400, Sum.inl ft))] H → va_D A [(h0, Sum.inr (2, [Value.int fk, Value.int fp, Value.ref va, Value.ref tx, Value.int ln, Value.int nx, Value.int tk, Value.int st, Value.int vl])), (tx, Sum.inl (tc, 400, Sum.inl ft))] → va_S A s.heap H locs → ∀ ls : Array Slot, lv_has ls 1 [(0, Value.ref h0)] → W p l e ({ frames := 2, cells := 0, slots := 0, locals := 80 }) s m args below meth c H locs 0 0 Q (F0 m 0 ls []) := by
  intro n
  induction n with
  | zero => intro nx  hn; exact absurd hn (Nat.not_lt_zero _)
  | succ n ih =>
    intro nx  hn H locs hP hD hS ls hl
    obtain ⟨hx, hb, hml, hown, hts⟩ := id F
    refine lv_aload_n hx hb dX2_takeToken_0 rfl (lv_at hl 0 rfl) ?_
    refine va_get (D := D) (ci := 2) (v := Value.int nx) (C := RX2) (T := TX2) (N := 9) hx hb hts inG_X2 hown hK hP 0 rfl rfl 5 (by decide) (hts _ kw_1_61) (fun _ h9 => h9) rfl dX2_takeToken_1 ?_
    refine lv_aload_n hx hb dX2_takeToken_4 rfl (lv_at hl 0 rfl) ?_
    refine va_get (D := D) (ci := 2) (v := Value.int ln) (C := RX2) (T := TX2) (N := 9) hx hb hts inG_X2 hown hK hP 0 rfl rfl 4 (by decide) (hts _ kw_1_60) (fun _ h9 => h9) rfl dX2_takeToken_5 ?_
    refine lv_icmp_ge (tgt := 38) hx hb dX2_takeToken_8 (by decide) (fun c_1 => ?_) (fun c_1 => ?_)
    · skip
      have c_1 := Int32.not_lt.mpr c_1
      exact kx_38 nx  H locs (hP.sub [0, 1] rfl) (hD.sub [0, 1] (by decide) rfl) hS ls (lv_sub hl [0] rfl)
    · skip
      have c_1 := Int32.not_le.mp c_1
      refine lv_aload_n hx hb dX2_takeToken_11 rfl (lv_at hl 0 rfl) ?_
      refine lv_aload_n hx hb dX2_takeToken_12 rfl (lv_at hl 0 rfl) ?_
      refine va_get (D := D) (ci := 2) (v := Value.int nx) (C := RX2) (T := TX2) (N := 9) hx hb hts inG_X2 hown hK hP 0 rfl rfl 5 (by decide) (hts _ kw_1_61) (fun _ h9 => h9) rfl dX2_takeToken_13 ?_
      refine mc_Vi (rest := []) (wr := []) F hK hP hD hS hA (c_signAt l D h0 va tx fk fp ln nx tk st vl tc ft nx ) ⟨gk_X2_107.1, gk_X2_107.2, Nat.le_of_ble_eq_true rfl, Nat.le_of_ble_eq_true rfl⟩ [0, 1] [] [0] ⟨rfl, rfl, rfl, rfl, by decide⟩ rfl xT_move (fun _ _ _ => trivial) 0 rfl rfl rfl hl.1 rfl (Nat.le_of_ble_eq_true rfl) dX2_takeToken_16 ⟨Nat.le_of_ble_eq_true rfl, Nat.le_of_ble_eq_true rfl⟩ (fun r_2 _ H locs hw hK1 hP hD hS => ?_)
      have hP : va_P D vwCl [(h0, Sum.inr (2, [Value.int fk, Value.int fp, Value.ref va, Value.ref tx, Value.int ln, Value.int nx, Value.int tk, Value.int st, Value.int vl])), (tx, Sum.inl (tc, 400, Sum.inl ft))] H := hP
      have hD : va_D A [(h0, Sum.inr (2, [Value.int fk, Value.int fp, Value.ref va, Value.ref tx, Value.int ln, Value.int nx, Value.int tk, Value.int st, Value.int vl])), (tx, Sum.inl (tc, 400, Sum.inl ft))] := hD
      have hw_3 : r_2 = r_2 := hw
      refine mc_Si (rest := []) (wr := [(h0, Sum.inr (2, [Value.int fk, Value.int fp, Value.ref va, Value.ref tx, Value.int ln, Value.int nx, Value.int tk, Value.int st, Value.int vl])), (tx, Sum.inl (tc, 400, Sum.inl ft))]) F hK hP hD hS hA (c_isBlank l D r_2 ) ⟨gk_X2_115.1, gk_X2_115.2, Nat.le_of_ble_eq_true rfl, Nat.le_of_ble_eq_true rfl⟩ [] [0, 1] [] ⟨rfl, rfl, rfl, rfl, by decide⟩ rfl xT_move (fun _ _ _ => trivial) rfl hl.1 rfl (Nat.le_of_ble_eq_true rfl) dX2_takeToken_19 ⟨Nat.le_of_ble_eq_true rfl, Nat.le_of_ble_eq_true rfl⟩ (fun r_4 _ H locs hw hK1 hP hD hS => ?_)
      have hP : va_P D vwCl [(h0, Sum.inr (2, [Value.int fk, Value.int fp, Value.ref va, Value.ref tx, Value.int ln, Value.int nx, Value.int tk, Value.int st, Value.int vl])), (tx, Sum.inl (tc, 400, Sum.inl ft))] H := hP
      have hD : va_D A [(h0, Sum.inr (2, [Value.int fk, Value.int fp, Value.ref va, Value.ref tx, Value.int ln, Value.int nx, Value.int tk, Value.int st, Value.int vl])), (tx, Sum.inl (tc, 400, Sum.inl ft))] := hD
      have hw_5 : r_4 = 0 ∨ r_4 = 1 := hw
      refine lv_if_eq (tgt := 38) hx hb dX2_takeToken_22 (by decide) (fun c_6 => ?_) (fun c_6 => ?_)
      · skip
        exact kx_38 nx  H locs (hP.sub [0, 1] rfl) (hD.sub [0, 1] (by decide) rfl) hS ls (lv_sub hl [0] rfl)
      · skip
        refine lv_aload_n hx hb dX2_takeToken_25 rfl (lv_at hl 0 rfl) ?_
        refine lv_dup hx hb dX2_takeToken_26 rfl ?_
        refine va_get (D := D) (ci := 2) (v := Value.int nx) (C := RX2) (T := TX2) (N := 9) hx hb hts inG_X2 hown hK hP 0 rfl rfl 5 (by decide) (hts _ kw_1_61) (fun _ h9 => h9) rfl dX2_takeToken_27 ?_
        refine lv_iconst (v := 1) hx hb dX2_takeToken_30 (by decide) ?_
        refine lv_iadd hx hb dX2_takeToken_31 ?_
        refine lv_topi (fun z_7 ez_7 => ?_)
        refine va_put (D := D) (ci := 2) (v := Value.int z_7) (ty := .int) (C := RX2) (T := TX2) (N := 9) hx hb hts inG_X2 tyX2 tyX2_ok nmX2 hown hK hP hD hS 0 rfl rfl 5 (by decide) (hts _ kw_1_61) (fun _ h9 => h9) rfl (by decide +kernel) rfl rfl (Nat.le_of_ble_eq_true rfl) dX2_takeToken_32 (fun H locs hP hD hS => ?_)
        have hP : va_P D vwCl [(h0, Sum.inr (2, [Value.int fk, Value.int fp, Value.ref va, Value.ref tx, Value.int ln, Value.int z_7, Value.int tk, Value.int st, Value.int vl])), (tx, Sum.inl (tc, 400, Sum.inl ft))] H := hP
        have hD : va_D A [(h0, Sum.inr (2, [Value.int fk, Value.int fp, Value.ref va, Value.ref tx, Value.int ln, Value.int z_7, Value.int tk, Value.int st, Value.int vl])), (tx, Sum.inl (tc, 400, Sum.inl ft))] := hD
        refine lv_goto (tgt := 0) hx hb dX2_takeToken_35 (by decide) ?_
        exact ih z_7  (Nat.lt_of_lt_of_le (by rw [ez_7]; exact inc_lt c_1) (Nat.le_of_lt_succ hn)) H locs (hP.sub [0, 1] rfl) (hD.sub [0, 1] (by decide) rfl) hS ls (lv_sub hl [0] rfl)
set_option maxHeartbeats 4000000 in
set_option maxRecDepth 100000 in
theorem c_takeToken (l : Launch) (D : va_G) (h0 : Nat) (va : Nat) (tx : Nat) (fk : Int32) (fp : Int32) (ln : Int32) (nx : Int32) (tk : Int32) (st : Int32) (vl : Int32) (tc : ClassId) (ft : Nat → Int32) : cV l yX2_takeToken (.code yX2_takeToken cX2_takeToken 1 none) ({ frames := 2, cells := 0, slots := 0, locals := 80 }) D [(tc, .int)] [(h0, Sum.inr (2, [Value.int fk, Value.int fp, Value.ref va, Value.ref tx, Value.int ln, Value.int nx, Value.int tk, Value.int st, Value.int vl])), (tx, Sum.inl (tc, 400, Sum.inl ft))] xT [Value.ref h0] (S := Int32 × Int32 × Int32 × Int32) (fun u => match u with | (nx1, tk1, st1, vl1) => True) (fun u => match u with | (nx1, tk1, st1, vl1) => []) (fun u => match u with | (nx1, tk1, st1, vl1) => [(h0, Sum.inr (2, [Value.int fk, Value.int fp, Value.ref va, Value.ref tx, Value.int ln, Value.int nx1, Value.int tk1, Value.int st1, Value.int vl1])), (tx, Sum.inl (tc, 400, Sum.inl ft))]) := by
  intro sz
  refine Met.ofW (cc := cX2_takeToken) (maxL := 1) (ret := none) (by decide) rfl ?_
  intro p e s m args below meth c s₁ B hml hv
  obtain ⟨rfl, hsz, hP, hK, hD0, hX⟩ := hv
  have hx := B.exec
  have hb := B.bytes
  have hr := B.returns
  have hts0 := atoms_spec (ws := .code yX2_takeToken cX2_takeToken 1 none :: gw) B.pre
  have hts := fun (w : Cond) (h : w ∈ gw) => hts0 w (List.mem_cons_of_mem _ h)
  have hown : s.vm.findClass RX2 = some m.cls := findClass_of_methodNamed B.named
  have hlocks := B.notSynchronized
  have F : mFix p s m _ c cX2_takeToken 1 RX2 := ⟨hx, hb, hml, hown, hts⟩
  subst hsz
  have hD := hD0.self (sz := s.heap.size)
  generalize hAe : va_A [(h0, Sum.inr (2, [Value.int fk, Value.int fp, Value.ref va, Value.ref tx, Value.int ln, Value.int nx, Value.int tk, Value.int st, Value.int vl])), (tx, Sum.inl (tc, 400, Sum.inl ft))] s.heap.size = A at hD hX ⊢
  have hA : ∀ q : Nat, s.heap.size ≤ q → A q := fun q h => by rw [← hAe]; exact Or.inr h
  have hS : va_S A s.heap s.heap [] := va_S.rf
  have hl := lv_entry ([Value.ref h0]) (n := 1) (Nat.le_of_ble_eq_true rfl)
  rw [lg_entry_eq]
  generalize (lg_sl ([Value.ref h0]) ++ List.replicate (1 - (lg_sl ([Value.ref h0])).length) Slot.unset).toArray = ls at hl ⊢
  have hl : lv_has ls 1 [(0, Value.ref h0)] := hl
  have hP : va_P D vwCl [(h0, Sum.inr (2, [Value.int fk, Value.int fp, Value.ref va, Value.ref tx, Value.int ln, Value.int nx, Value.int tk, Value.int st, Value.int vl])), (tx, Sum.inl (tc, 400, Sum.inl ft))] s.heap := hP
  refine lp_takeToken F hA h0 va tx fk fp ln tk st vl tc ft (hK.sub [0] rfl) (fun nx_1  H locs hP hD hS ls hl => ?_) _ nx  (Nat.lt_succ_self _) _ _ (hP.sub [0, 1] rfl) (hD.sub [0, 1] (by decide) rfl) hS ls (lv_sub hl [0] rfl)
  refine lv_aload_n hx hb dX2_takeToken_38 rfl (lv_at hl 0 rfl) ?_
  refine lv_aload_n hx hb dX2_takeToken_39 rfl (lv_at hl 0 rfl) ?_
  refine va_get (D := D) (ci := 2) (v := Value.int nx_1) (C := RX2) (T := TX2) (N := 9) hx hb hts inG_X2 hown hK hP 0 rfl rfl 5 (by decide) (hts _ kw_1_61) (fun _ h9 => h9) rfl dX2_takeToken_40 ?_
  refine va_put (D := D) (ci := 2) (v := Value.int nx_1) (ty := .int) (C := RX2) (T := TX2) (N := 9) hx hb hts inG_X2 tyX2 tyX2_ok nmX2 hown hK hP hD hS 0 rfl rfl 7 (by decide) (hts _ kw_1_63) (fun _ h9 => h9) rfl (by decide +kernel) rfl rfl (Nat.le_of_ble_eq_true rfl) dX2_takeToken_43 (fun H locs hP hD hS => ?_)
  have hP : va_P D vwCl [(h0, Sum.inr (2, [Value.int fk, Value.int fp, Value.ref va, Value.ref tx, Value.int ln, Value.int nx_1, Value.int tk, Value.int nx_1, Value.int vl])), (tx, Sum.inl (tc, 400, Sum.inl ft))] H := hP
  have hD : va_D A [(h0, Sum.inr (2, [Value.int fk, Value.int fp, Value.ref va, Value.ref tx, Value.int ln, Value.int nx_1, Value.int tk, Value.int nx_1, Value.int vl])), (tx, Sum.inl (tc, 400, Sum.inl ft))] := hD
  refine lv_aload_n hx hb dX2_takeToken_46 rfl (lv_at hl 0 rfl) ?_
  refine va_get (D := D) (ci := 2) (v := Value.int nx_1) (C := RX2) (T := TX2) (N := 9) hx hb hts inG_X2 hown hK hP 0 rfl rfl 5 (by decide) (hts _ kw_1_61) (fun _ h9 => h9) rfl dX2_takeToken_47 ?_
  refine lv_aload_n hx hb dX2_takeToken_50 rfl (lv_at hl 0 rfl) ?_
  refine va_get (D := D) (ci := 2) (v := Value.int ln) (C := RX2) (T := TX2) (N := 9) hx hb hts inG_X2 hown hK hP 0 rfl rfl 4 (by decide) (hts _ kw_1_60) (fun _ h9 => h9) rfl dX2_takeToken_51 ?_
  refine lv_icmp_lt (tgt := 65) hx hb dX2_takeToken_54 (by decide) (fun c_2 => ?_) (fun c_2 => ?_)
  · skip
    refine lv_aload_n hx hb dX2_takeToken_65 rfl (lv_at hl 0 rfl) ?_
    refine lv_aload_n hx hb dX2_takeToken_66 rfl (lv_at hl 0 rfl) ?_
    refine va_get (D := D) (ci := 2) (v := Value.int nx_1) (C := RX2) (T := TX2) (N := 9) hx hb hts inG_X2 hown hK hP 0 rfl rfl 5 (by decide) (hts _ kw_1_61) (fun _ h9 => h9) rfl dX2_takeToken_67 ?_
    refine mc_Vi (rest := []) (wr := []) F hK hP hD hS hA (c_signAt l D h0 va tx fk fp ln nx_1 tk nx_1 vl tc ft nx_1 ) ⟨gk_X2_107.1, gk_X2_107.2, Nat.le_of_ble_eq_true rfl, Nat.le_of_ble_eq_true rfl⟩ [0, 1] [] [0] ⟨rfl, rfl, rfl, rfl, by decide⟩ rfl xT_move (fun _ _ _ => trivial) 0 rfl rfl rfl hl.1 rfl (Nat.le_of_ble_eq_true rfl) dX2_takeToken_70 ⟨Nat.le_of_ble_eq_true rfl, Nat.le_of_ble_eq_true rfl⟩ (fun r_3 _ H locs hw hK1 hP hD hS => ?_)
    have hP : va_P D vwCl [(h0, Sum.inr (2, [Value.int fk, Value.int fp, Value.ref va, Value.ref tx, Value.int ln, Value.int nx_1, Value.int tk, Value.int nx_1, Value.int vl])), (tx, Sum.inl (tc, 400, Sum.inl ft))] H := hP
    have hD : va_D A [(h0, Sum.inr (2, [Value.int fk, Value.int fp, Value.ref va, Value.ref tx, Value.int ln, Value.int nx_1, Value.int tk, Value.int nx_1, Value.int vl])), (tx, Sum.inl (tc, 400, Sum.inl ft))] := hD
    have hw_4 : r_3 = r_3 := hw
    refine mc_Si (rest := []) (wr := [(h0, Sum.inr (2, [Value.int fk, Value.int fp, Value.ref va, Value.ref tx, Value.int ln, Value.int nx_1, Value.int tk, Value.int nx_1, Value.int vl])), (tx, Sum.inl (tc, 400, Sum.inl ft))]) F hK hP hD hS hA (c_isLetter l D r_3 ) ⟨gk_X2_119.1, gk_X2_119.2, Nat.le_of_ble_eq_true rfl, Nat.le_of_ble_eq_true rfl⟩ [] [0, 1] [] ⟨rfl, rfl, rfl, rfl, by decide⟩ rfl xT_move (fun _ _ _ => trivial) rfl hl.1 rfl (Nat.le_of_ble_eq_true rfl) dX2_takeToken_73 ⟨Nat.le_of_ble_eq_true rfl, Nat.le_of_ble_eq_true rfl⟩ (fun r_5 _ H locs hw hK1 hP hD hS => ?_)
    have hP : va_P D vwCl [(h0, Sum.inr (2, [Value.int fk, Value.int fp, Value.ref va, Value.ref tx, Value.int ln, Value.int nx_1, Value.int tk, Value.int nx_1, Value.int vl])), (tx, Sum.inl (tc, 400, Sum.inl ft))] H := hP
    have hD : va_D A [(h0, Sum.inr (2, [Value.int fk, Value.int fp, Value.ref va, Value.ref tx, Value.int ln, Value.int nx_1, Value.int tk, Value.int nx_1, Value.int vl])), (tx, Sum.inl (tc, 400, Sum.inl ft))] := hD
    have hw_6 : r_5 = 0 ∨ r_5 = 1 := hw
    refine lv_if_eq (tgt := 86) hx hb dX2_takeToken_76 (by decide) (fun c_7 => ?_) (fun c_7 => ?_)
    · skip
      refine lv_aload_n hx hb dX2_takeToken_86 rfl (lv_at hl 0 rfl) ?_
      refine lv_aload_n hx hb dX2_takeToken_87 rfl (lv_at hl 0 rfl) ?_
      refine va_get (D := D) (ci := 2) (v := Value.int nx_1) (C := RX2) (T := TX2) (N := 9) hx hb hts inG_X2 hown hK hP 0 rfl rfl 5 (by decide) (hts _ kw_1_61) (fun _ h9 => h9) rfl dX2_takeToken_88 ?_
      refine mc_Vi (rest := []) (wr := []) F hK hP hD hS hA (c_signAt l D h0 va tx fk fp ln nx_1 tk nx_1 vl tc ft nx_1 ) ⟨gk_X2_107.1, gk_X2_107.2, Nat.le_of_ble_eq_true rfl, Nat.le_of_ble_eq_true rfl⟩ [0, 1] [] [0] ⟨rfl, rfl, rfl, rfl, by decide⟩ rfl xT_move (fun _ _ _ => trivial) 0 rfl rfl rfl hl.1 rfl (Nat.le_of_ble_eq_true rfl) dX2_takeToken_91 ⟨Nat.le_of_ble_eq_true rfl, Nat.le_of_ble_eq_true rfl⟩ (fun r_8 _ H locs hw hK1 hP hD hS => ?_)
      have hP : va_P D vwCl [(h0, Sum.inr (2, [Value.int fk, Value.int fp, Value.ref va, Value.ref tx, Value.int ln, Value.int nx_1, Value.int tk, Value.int nx_1, Value.int vl])), (tx, Sum.inl (tc, 400, Sum.inl ft))] H := hP
      have hD : va_D A [(h0, Sum.inr (2, [Value.int fk, Value.int fp, Value.ref va, Value.ref tx, Value.int ln, Value.int nx_1, Value.int tk, Value.int nx_1, Value.int vl])), (tx, Sum.inl (tc, 400, Sum.inl ft))] := hD
      have hw_9 : r_8 = r_8 := hw
      refine mc_Si (rest := []) (wr := [(h0, Sum.inr (2, [Value.int fk, Value.int fp, Value.ref va, Value.ref tx, Value.int ln, Value.int nx_1, Value.int tk, Value.int nx_1, Value.int vl])), (tx, Sum.inl (tc, 400, Sum.inl ft))]) F hK hP hD hS hA (c_isDigit l D r_8 ) ⟨gk_X2_125.1, gk_X2_125.2, Nat.le_of_ble_eq_true rfl, Nat.le_of_ble_eq_true rfl⟩ [] [0, 1] [] ⟨rfl, rfl, rfl, rfl, by decide⟩ rfl xT_move (fun _ _ _ => trivial) rfl hl.1 rfl (Nat.le_of_ble_eq_true rfl) dX2_takeToken_94 ⟨Nat.le_of_ble_eq_true rfl, Nat.le_of_ble_eq_true rfl⟩ (fun r_10 _ H locs hw hK1 hP hD hS => ?_)
      have hP : va_P D vwCl [(h0, Sum.inr (2, [Value.int fk, Value.int fp, Value.ref va, Value.ref tx, Value.int ln, Value.int nx_1, Value.int tk, Value.int nx_1, Value.int vl])), (tx, Sum.inl (tc, 400, Sum.inl ft))] H := hP
      have hD : va_D A [(h0, Sum.inr (2, [Value.int fk, Value.int fp, Value.ref va, Value.ref tx, Value.int ln, Value.int nx_1, Value.int tk, Value.int nx_1, Value.int vl])), (tx, Sum.inl (tc, 400, Sum.inl ft))] := hD
      have hw_11 : r_10 = 0 ∨ r_10 = 1 := hw
      refine lv_if_eq (tgt := 107) hx hb dX2_takeToken_97 (by decide) (fun c_12 => ?_) (fun c_12 => ?_)
      · skip
        refine lv_aload_n hx hb dX2_takeToken_107 rfl (lv_at hl 0 rfl) ?_
        refine lv_aload_n hx hb dX2_takeToken_108 rfl (lv_at hl 0 rfl) ?_
        refine lv_aload_n hx hb dX2_takeToken_109 rfl (lv_at hl 0 rfl) ?_
        refine va_get (D := D) (ci := 2) (v := Value.int nx_1) (C := RX2) (T := TX2) (N := 9) hx hb hts inG_X2 hown hK hP 0 rfl rfl 5 (by decide) (hts _ kw_1_61) (fun _ h9 => h9) rfl dX2_takeToken_110 ?_
        refine mc_Vi (rest := [Value.ref h0]) (wr := []) F hK hP hD hS hA (c_signAt l D h0 va tx fk fp ln nx_1 tk nx_1 vl tc ft nx_1 ) ⟨gk_X2_107.1, gk_X2_107.2, Nat.le_of_ble_eq_true rfl, Nat.le_of_ble_eq_true rfl⟩ [0, 1] [] [0] ⟨rfl, rfl, rfl, rfl, by decide⟩ rfl xT_move (fun _ _ _ => trivial) 0 rfl rfl rfl hl.1 rfl (Nat.le_of_ble_eq_true rfl) dX2_takeToken_113 ⟨Nat.le_of_ble_eq_true rfl, Nat.le_of_ble_eq_true rfl⟩ (fun r_13 _ H locs hw hK1 hP hD hS => ?_)
        have hP : va_P D vwCl [(h0, Sum.inr (2, [Value.int fk, Value.int fp, Value.ref va, Value.ref tx, Value.int ln, Value.int nx_1, Value.int tk, Value.int nx_1, Value.int vl])), (tx, Sum.inl (tc, 400, Sum.inl ft))] H := hP
        have hD : va_D A [(h0, Sum.inr (2, [Value.int fk, Value.int fp, Value.ref va, Value.ref tx, Value.int ln, Value.int nx_1, Value.int tk, Value.int nx_1, Value.int vl])), (tx, Sum.inl (tc, 400, Sum.inl ft))] := hD
        have hw_14 : r_13 = r_13 := hw
        refine lv_bipush (v := 59) hx hb dX2_takeToken_116 (by decide) ?_
        refine lv_icmp_ne (tgt := 125) hx hb dX2_takeToken_118 (by decide) (fun c_15 => ?_) (fun c_15 => ?_)
        · skip
          refine lv_iconst (v := 4) hx hb dX2_takeToken_125 (by decide) ?_
          refine va_put (D := D) (ci := 2) (v := Value.int 4) (ty := .int) (C := RX2) (T := TX2) (N := 9) hx hb hts inG_X2 tyX2 tyX2_ok nmX2 hown hK hP hD hS 0 rfl rfl 6 (by decide) (hts _ kw_1_62) (fun _ h9 => h9) rfl (by decide +kernel) rfl rfl (Nat.le_of_ble_eq_true rfl) dX2_takeToken_126 (fun H locs hP hD hS => ?_)
          have hP : va_P D vwCl [(h0, Sum.inr (2, [Value.int fk, Value.int fp, Value.ref va, Value.ref tx, Value.int ln, Value.int nx_1, Value.int 4, Value.int nx_1, Value.int vl])), (tx, Sum.inl (tc, 400, Sum.inl ft))] H := hP
          have hD : va_D A [(h0, Sum.inr (2, [Value.int fk, Value.int fp, Value.ref va, Value.ref tx, Value.int ln, Value.int nx_1, Value.int 4, Value.int nx_1, Value.int vl])), (tx, Sum.inl (tc, 400, Sum.inl ft))] := hD
          refine lv_aload_n hx hb dX2_takeToken_129 rfl (lv_at hl 0 rfl) ?_
          refine lv_dup hx hb dX2_takeToken_130 rfl ?_
          refine va_get (D := D) (ci := 2) (v := Value.int nx_1) (C := RX2) (T := TX2) (N := 9) hx hb hts inG_X2 hown hK hP 0 rfl rfl 5 (by decide) (hts _ kw_1_61) (fun _ h9 => h9) rfl dX2_takeToken_131 ?_
          refine lv_iconst (v := 1) hx hb dX2_takeToken_134 (by decide) ?_
          refine lv_iadd hx hb dX2_takeToken_135 ?_
          refine lv_topi (fun z_16 ez_16 => ?_)
          refine va_put (D := D) (ci := 2) (v := Value.int z_16) (ty := .int) (C := RX2) (T := TX2) (N := 9) hx hb hts inG_X2 tyX2 tyX2_ok nmX2 hown hK hP hD hS 0 rfl rfl 5 (by decide) (hts _ kw_1_61) (fun _ h9 => h9) rfl (by decide +kernel) rfl rfl (Nat.le_of_ble_eq_true rfl) dX2_takeToken_136 (fun H locs hP hD hS => ?_)
          have hP : va_P D vwCl [(h0, Sum.inr (2, [Value.int fk, Value.int fp, Value.ref va, Value.ref tx, Value.int ln, Value.int z_16, Value.int 4, Value.int nx_1, Value.int vl])), (tx, Sum.inl (tc, 400, Sum.inl ft))] H := hP
          have hD : va_D A [(h0, Sum.inr (2, [Value.int fk, Value.int fp, Value.ref va, Value.ref tx, Value.int ln, Value.int z_16, Value.int 4, Value.int nx_1, Value.int vl])), (tx, Sum.inl (tc, 400, Sum.inl ft))] := hD
          have hP9 := hP.sub (ws' := [(h0, Sum.inr (2, [Value.int fk, Value.int fp, Value.ref va, Value.ref tx, Value.int ln, Value.int z_16, Value.int 4, Value.int nx_1, Value.int vl])), (tx, Sum.inl (tc, 400, Sum.inl ft))]) [0, 1] rfl
          have hD9 := hD.sub (ws' := [(h0, Sum.inr (2, [Value.int fk, Value.int fp, Value.ref va, Value.ref tx, Value.int ln, Value.int z_16, Value.int 4, Value.int nx_1, Value.int vl])), (tx, Sum.inl (tc, 400, Sum.inl ft))]) [0, 1] (by decide) rfl
          have hK9 := hK.sub (tys' := []) [] rfl
          refine W.widen (k := 0) (n := 0) (by decide) (by decide) ?_
          exact W.vret hx hb hr (fun t ht hW => ⟨⟨(z_16, 4, nx_1, vl), rfl, trivial, by rw [ht]; exact hP9, va_K.moved hW.alike hK9, hD9⟩, hS.F ht⟩) hS.2.2 dX2_takeToken_139
        · skip
          refine lv_iconst (v := 3) hx hb dX2_takeToken_121 (by decide) ?_
          refine lv_goto (tgt := 126) hx hb dX2_takeToken_122 (by decide) ?_
          refine va_put (D := D) (ci := 2) (v := Value.int 3) (ty := .int) (C := RX2) (T := TX2) (N := 9) hx hb hts inG_X2 tyX2 tyX2_ok nmX2 hown hK hP hD hS 0 rfl rfl 6 (by decide) (hts _ kw_1_62) (fun _ h9 => h9) rfl (by decide +kernel) rfl rfl (Nat.le_of_ble_eq_true rfl) dX2_takeToken_126 (fun H locs hP hD hS => ?_)
          have hP : va_P D vwCl [(h0, Sum.inr (2, [Value.int fk, Value.int fp, Value.ref va, Value.ref tx, Value.int ln, Value.int nx_1, Value.int 3, Value.int nx_1, Value.int vl])), (tx, Sum.inl (tc, 400, Sum.inl ft))] H := hP
          have hD : va_D A [(h0, Sum.inr (2, [Value.int fk, Value.int fp, Value.ref va, Value.ref tx, Value.int ln, Value.int nx_1, Value.int 3, Value.int nx_1, Value.int vl])), (tx, Sum.inl (tc, 400, Sum.inl ft))] := hD
          refine lv_aload_n hx hb dX2_takeToken_129 rfl (lv_at hl 0 rfl) ?_
          refine lv_dup hx hb dX2_takeToken_130 rfl ?_
          refine va_get (D := D) (ci := 2) (v := Value.int nx_1) (C := RX2) (T := TX2) (N := 9) hx hb hts inG_X2 hown hK hP 0 rfl rfl 5 (by decide) (hts _ kw_1_61) (fun _ h9 => h9) rfl dX2_takeToken_131 ?_
          refine lv_iconst (v := 1) hx hb dX2_takeToken_134 (by decide) ?_
          refine lv_iadd hx hb dX2_takeToken_135 ?_
          refine lv_topi (fun z_17 ez_17 => ?_)
          refine va_put (D := D) (ci := 2) (v := Value.int z_17) (ty := .int) (C := RX2) (T := TX2) (N := 9) hx hb hts inG_X2 tyX2 tyX2_ok nmX2 hown hK hP hD hS 0 rfl rfl 5 (by decide) (hts _ kw_1_61) (fun _ h9 => h9) rfl (by decide +kernel) rfl rfl (Nat.le_of_ble_eq_true rfl) dX2_takeToken_136 (fun H locs hP hD hS => ?_)
          have hP : va_P D vwCl [(h0, Sum.inr (2, [Value.int fk, Value.int fp, Value.ref va, Value.ref tx, Value.int ln, Value.int z_17, Value.int 3, Value.int nx_1, Value.int vl])), (tx, Sum.inl (tc, 400, Sum.inl ft))] H := hP
          have hD : va_D A [(h0, Sum.inr (2, [Value.int fk, Value.int fp, Value.ref va, Value.ref tx, Value.int ln, Value.int z_17, Value.int 3, Value.int nx_1, Value.int vl])), (tx, Sum.inl (tc, 400, Sum.inl ft))] := hD
          have hP9 := hP.sub (ws' := [(h0, Sum.inr (2, [Value.int fk, Value.int fp, Value.ref va, Value.ref tx, Value.int ln, Value.int z_17, Value.int 3, Value.int nx_1, Value.int vl])), (tx, Sum.inl (tc, 400, Sum.inl ft))]) [0, 1] rfl
          have hD9 := hD.sub (ws' := [(h0, Sum.inr (2, [Value.int fk, Value.int fp, Value.ref va, Value.ref tx, Value.int ln, Value.int z_17, Value.int 3, Value.int nx_1, Value.int vl])), (tx, Sum.inl (tc, 400, Sum.inl ft))]) [0, 1] (by decide) rfl
          have hK9 := hK.sub (tys' := []) [] rfl
          refine W.widen (k := 0) (n := 0) (by decide) (by decide) ?_
          exact W.vret hx hb hr (fun t ht hW => ⟨⟨(z_17, 3, nx_1, vl), rfl, trivial, by rw [ht]; exact hP9, va_K.moved hW.alike hK9, hD9⟩, hS.F ht⟩) hS.2.2 dX2_takeToken_139
      · skip
        refine lv_aload_n hx hb dX2_takeToken_100 rfl (lv_at hl 0 rfl) ?_
        refine mc_Vv (rest := []) (wr := []) F hK hP hD hS hA (c_takeNumber l D h0 va tx fk fp ln nx_1 tk nx_1 vl tc ft ) ⟨gk_X2_128.1, gk_X2_128.2, Nat.le_of_ble_eq_true rfl, Nat.le_of_ble_eq_true rfl⟩ [0, 1] [] [0] ⟨rfl, rfl, rfl, rfl, by decide⟩ rfl xT_move (fun _ _ _ => trivial) 0 rfl rfl rfl hl.1 rfl (Nat.le_of_ble_eq_true rfl) dX2_takeToken_101 ⟨Nat.le_of_ble_eq_true rfl, Nat.le_of_ble_eq_true rfl⟩ (fun u H locs hw hK1 hP hD hS => ?_)
        obtain ⟨nx1_18, vl1_19⟩ := u
        have hP : va_P D vwCl [(h0, Sum.inr (2, [Value.int fk, Value.int fp, Value.ref va, Value.ref tx, Value.int ln, Value.int nx1_18, Value.int 2, Value.int nx_1, Value.int vl1_19])), (tx, Sum.inl (tc, 400, Sum.inl ft))] H := hP
        have hD : va_D A [(h0, Sum.inr (2, [Value.int fk, Value.int fp, Value.ref va, Value.ref tx, Value.int ln, Value.int nx1_18, Value.int 2, Value.int nx_1, Value.int vl1_19])), (tx, Sum.inl (tc, 400, Sum.inl ft))] := hD
        refine lv_goto (tgt := 139) hx hb dX2_takeToken_104 (by decide) ?_
        have hP9 := hP.sub (ws' := [(h0, Sum.inr (2, [Value.int fk, Value.int fp, Value.ref va, Value.ref tx, Value.int ln, Value.int nx1_18, Value.int 2, Value.int nx_1, Value.int vl1_19])), (tx, Sum.inl (tc, 400, Sum.inl ft))]) [0, 1] rfl
        have hD9 := hD.sub (ws' := [(h0, Sum.inr (2, [Value.int fk, Value.int fp, Value.ref va, Value.ref tx, Value.int ln, Value.int nx1_18, Value.int 2, Value.int nx_1, Value.int vl1_19])), (tx, Sum.inl (tc, 400, Sum.inl ft))]) [0, 1] (by decide) rfl
        have hK9 := hK.sub (tys' := []) [] rfl
        refine W.widen (k := 0) (n := 0) (by decide) (by decide) ?_
        exact W.vret hx hb hr (fun t ht hW => ⟨⟨(nx1_18, 2, nx_1, vl1_19), rfl, trivial, by rw [ht]; exact hP9, va_K.moved hW.alike hK9, hD9⟩, hS.F ht⟩) hS.2.2 dX2_takeToken_139
    · skip
      refine lv_aload_n hx hb dX2_takeToken_79 rfl (lv_at hl 0 rfl) ?_
      refine mc_Vv (rest := []) (wr := []) F hK hP hD hS hA (c_takeWord l D h0 va tx fk fp ln nx_1 tk nx_1 vl tc ft ) ⟨gk_X2_122.1, gk_X2_122.2, Nat.le_of_ble_eq_true rfl, Nat.le_of_ble_eq_true rfl⟩ [0, 1] [] [0] ⟨rfl, rfl, rfl, rfl, by decide⟩ rfl xT_move (fun _ _ _ => trivial) 0 rfl rfl rfl hl.1 rfl (Nat.le_of_ble_eq_true rfl) dX2_takeToken_80 ⟨Nat.le_of_ble_eq_true rfl, Nat.le_of_ble_eq_true rfl⟩ (fun nx1_22 H locs hw hK1 hP hD hS => ?_)
      have hP : va_P D vwCl [(h0, Sum.inr (2, [Value.int fk, Value.int fp, Value.ref va, Value.ref tx, Value.int ln, Value.int nx1_22, Value.int 1, Value.int nx_1, Value.int vl])), (tx, Sum.inl (tc, 400, Sum.inl ft))] H := hP
      have hD : va_D A [(h0, Sum.inr (2, [Value.int fk, Value.int fp, Value.ref va, Value.ref tx, Value.int ln, Value.int nx1_22, Value.int 1, Value.int nx_1, Value.int vl])), (tx, Sum.inl (tc, 400, Sum.inl ft))] := hD
      refine lv_goto (tgt := 139) hx hb dX2_takeToken_83 (by decide) ?_
      have hP9 := hP.sub (ws' := [(h0, Sum.inr (2, [Value.int fk, Value.int fp, Value.ref va, Value.ref tx, Value.int ln, Value.int nx1_22, Value.int 1, Value.int nx_1, Value.int vl])), (tx, Sum.inl (tc, 400, Sum.inl ft))]) [0, 1] rfl
      have hD9 := hD.sub (ws' := [(h0, Sum.inr (2, [Value.int fk, Value.int fp, Value.ref va, Value.ref tx, Value.int ln, Value.int nx1_22, Value.int 1, Value.int nx_1, Value.int vl])), (tx, Sum.inl (tc, 400, Sum.inl ft))]) [0, 1] (by decide) rfl
      have hK9 := hK.sub (tys' := []) [] rfl
      refine W.widen (k := 0) (n := 0) (by decide) (by decide) ?_
      exact W.vret hx hb hr (fun t ht hW => ⟨⟨(nx1_22, 1, nx_1, vl), rfl, trivial, by rw [ht]; exact hP9, va_K.moved hW.alike hK9, hD9⟩, hS.F ht⟩) hS.2.2 dX2_takeToken_139
  · skip
    refine lv_aload_n hx hb dX2_takeToken_57 rfl (lv_at hl 0 rfl) ?_
    refine lv_iconst (v := 0) hx hb dX2_takeToken_58 (by decide) ?_
    refine va_put (D := D) (ci := 2) (v := Value.int 0) (ty := .int) (C := RX2) (T := TX2) (N := 9) hx hb hts inG_X2 tyX2 tyX2_ok nmX2 hown hK hP hD hS 0 rfl rfl 6 (by decide) (hts _ kw_1_62) (fun _ h9 => h9) rfl (by decide +kernel) rfl rfl (Nat.le_of_ble_eq_true rfl) dX2_takeToken_59 (fun H locs hP hD hS => ?_)
    have hP : va_P D vwCl [(h0, Sum.inr (2, [Value.int fk, Value.int fp, Value.ref va, Value.ref tx, Value.int ln, Value.int nx_1, Value.int 0, Value.int nx_1, Value.int vl])), (tx, Sum.inl (tc, 400, Sum.inl ft))] H := hP
    have hD : va_D A [(h0, Sum.inr (2, [Value.int fk, Value.int fp, Value.ref va, Value.ref tx, Value.int ln, Value.int nx_1, Value.int 0, Value.int nx_1, Value.int vl])), (tx, Sum.inl (tc, 400, Sum.inl ft))] := hD
    refine lv_goto (tgt := 139) hx hb dX2_takeToken_62 (by decide) ?_
    have hP9 := hP.sub (ws' := [(h0, Sum.inr (2, [Value.int fk, Value.int fp, Value.ref va, Value.ref tx, Value.int ln, Value.int nx_1, Value.int 0, Value.int nx_1, Value.int vl])), (tx, Sum.inl (tc, 400, Sum.inl ft))]) [0, 1] rfl
    have hD9 := hD.sub (ws' := [(h0, Sum.inr (2, [Value.int fk, Value.int fp, Value.ref va, Value.ref tx, Value.int ln, Value.int nx_1, Value.int 0, Value.int nx_1, Value.int vl])), (tx, Sum.inl (tc, 400, Sum.inl ft))]) [0, 1] (by decide) rfl
    have hK9 := hK.sub (tys' := []) [] rfl
    refine W.widen (k := 0) (n := 0) (by decide) (by decide) ?_
    exact W.vret hx hb hr (fun t ht hW => ⟨⟨(nx_1, 0, nx_1, vl), rfl, trivial, by rw [ht]; exact hP9, va_K.moved hW.alike hK9, hD9⟩, hS.F ht⟩) hS.2.2 dX2_takeToken_139
set_option maxHeartbeats 4000000 in
set_option maxRecDepth 100000 in
theorem lp_isWord {p : Program} {l : Launch} {e : Env} {s : State} {m : MethodId} {args : Array Value} {below : List Frame} {meth : Method} {c : Code} {Q : State → Prop} {A : Nat → Prop} {D : va_G} (F : mFix p s m args c cX2_isWord 3 RX2) (hA : ∀ q, s.heap.size ≤ q → A q) (kk : Nat → Nat) (h0 : Nat) (va : Nat) (tx : Nat) (fk : Int32) (fp : Int32) (ln : Int32) (nx : Int32) (tk : Int32) (st : Int32) (vl : Int32) (tc : ClassId) (ft : Nat → Int32) (i : Nat) (hK : va_K D vwCl [(tc, .int)] s) (hX : (xS kk) A s)
    (kx_46 : ∀ (H : Heap) (locs : List Loc), va_P D vwCl [(h0, Sum.inr (2, [Value.int fk, Value.int fp, Value.ref va, Value.ref tx, Value.int ln, Value.int nx, Value.int tk, Value.int st, Value.int vl])), (tx, Sum.inl (tc, 400, Sum.inl ft))] H → va_D A [(h0, Sum.inr (2, [Value.int fk, Value.int fp, Value.ref va, Value.ref tx, Value.int ln, Value.int nx, Value.int tk, Value.int st, Value.int vl])), (tx, Sum.inl (tc, 400, Sum.inl ft))] → va_S A s.heap H locs → ∀ ls : Array Slot, lv_has ls 3 [] → W p l e ({ frames := 6, cells := 0, slots := 0, locals := 166 }) s m args below meth c H locs 0 0 Q (F0 m 46 ls []))
    (kx_54 : ∀ (H : Heap) (locs : List Loc), va_P D vwCl [(h0, Sum.inr (2, [Value.int fk, Value.int fp, Value.ref va, Value.ref tx, Value.int ln, Value.int nx, Value.int tk, Value.int st, Value.int vl])), (tx, Sum.inl (tc, 400, Sum.inl ft))] H → va_D A [(h0, Sum.inr (2, [Value.int fk, Value.int fp, Value.ref va, Value.ref tx, Value.int ln, Value.int nx, Value.int tk, Value.int st, Value.int vl])), (tx, Sum.inl (tc, 400, Sum.inl ft))] → va_S A s.heap H locs → ∀ ls : Array Slot, lv_has ls 3 [] → W p l e ({ frames := 6, cells := 0, slots := 0, locals := 166 }) s m args below meth c H locs 0 0 Q (F0 m 54 ls [])) :
    ∀ n : Nat, ∀ (j : Nat), (j ≤ 5) → (i < 7) → (lenN i ≤ 5) → (5 - j) < n → ∀ (H : Heap) (locs : List Loc), va_P D vwCl [(h0, Sum.inr (2, [Value.int fk, Value.int fp, Value.ref va, Value.ref tx, Value.int ln, Value.int nx, Value.int tk, Value.int st, Value.int vl])), (tx, Sum.inl (tc, 400, Sum.inl ft))] H → va_D A [(h0, Sum.inr (2, [Value.int fk, Value.int fp, Value.ref va, Value.ref tx, Value.int ln, Value.int nx, Value.int tk, Value.int st, Value.int vl])), (tx, Sum.inl (tc, 400, Sum.inl ft))] → va_S A s.heap H locs → ∀ ls : Array Slot, lv_has ls 3 [(0, Value.ref h0), (1, Value.ref (kk i)), (2, Value.int (nI j))] → W p l e ({ frames := 6, cells := 0, slots := 0, locals := 166 }) s m args below meth c H locs 0 0 Q (F0 m 20 ls []) := by
  intro n
  induction n with
  | zero => intro j hj hi7 hl5 hn; exact absurd hn (Nat.not_lt_zero _)
  | succ n ih =>
    intro j hj hi7 hl5 hn H locs hP hD hS ls hl
    obtain ⟨hx, hb, hml, hown, hts⟩ := id F
    refine lv_iload_n hx hb dX2_isWord_20 rfl (lv_at hl 2 rfl) ?_
    refine lv_aload_n hx hb dX2_isWord_21 rfl (lv_at hl 1 rfl) ?_
    refine mc_Ki (rest := [Value.int (nI j)]) (wr := [(h0, Sum.inr (2, [Value.int fk, Value.int fp, Value.ref va, Value.ref tx, Value.int ln, Value.int nx, Value.int tk, Value.int st, Value.int vl])), (tx, Sum.inl (tc, 400, Sum.inl ft))]) F hK hP hD hS hA (c_strlen l D kk i (by omega)) ⟨gk_X2_102.1, gk_X2_102.2, Nat.le_of_ble_eq_true rfl, Nat.le_of_ble_eq_true rfl⟩ [] [0, 1] [] ⟨rfl, rfl, rfl, rfl, by decide⟩ rfl (xS_move kk) (xS_use hX hS (va_free hD hS hA [] rfl)) (x_rvS hX (by omega) hS) rfl hl.1 rfl (Nat.le_of_ble_eq_true rfl) dX2_isWord_22 ⟨Nat.le_of_ble_eq_true rfl, Nat.le_of_ble_eq_true rfl⟩ (fun r_1 _ H locs hw hK1 hP hD hS => ?_)
    have hP : va_P D vwCl [(h0, Sum.inr (2, [Value.int fk, Value.int fp, Value.ref va, Value.ref tx, Value.int ln, Value.int nx, Value.int tk, Value.int st, Value.int vl])), (tx, Sum.inl (tc, 400, Sum.inl ft))] H := hP
    have hD : va_D A [(h0, Sum.inr (2, [Value.int fk, Value.int fp, Value.ref va, Value.ref tx, Value.int ln, Value.int nx, Value.int tk, Value.int st, Value.int vl])), (tx, Sum.inl (tc, 400, Sum.inl ft))] := hD
    have hw_2 : r_1 = nI (lenN i) := hw
    obtain rfl : r_1 = nI (lenN i) := hw_2
    refine lv_icmp_ge (tgt := 54) hx hb dX2_isWord_25 (by decide) (fun c_3 => ?_) (fun c_3 => ?_)
    · skip
      have c_3n : (lenN i) ≤ j := (nI_leI (by omega) (by omega)).mp c_3
      have c_3 := Int32.not_lt.mpr c_3
      exact kx_54   H locs (hP.sub [0, 1] rfl) (hD.sub [0, 1] (by decide) rfl) hS ls (lv_sub hl [] rfl)
    · skip
      have c_3n : j < (lenN i) := nb_le (by omega) (by omega) c_3
      have c_3 := Int32.not_le.mp c_3
      refine lv_aload_n hx hb dX2_isWord_28 rfl (lv_at hl 0 rfl) ?_
      refine lv_aload_n hx hb dX2_isWord_29 rfl (lv_at hl 0 rfl) ?_
      refine va_get (D := D) (ci := 2) (v := Value.int st) (C := RX2) (T := TX2) (N := 9) hx hb hts inG_X2 hown hK hP 0 rfl rfl 7 (by decide) (hts _ kw_1_63) (fun _ h9 => h9) rfl dX2_isWord_30 ?_
      refine lv_iload_n hx hb dX2_isWord_33 rfl (lv_at hl 2 rfl) ?_
      refine lv_iadd hx hb dX2_isWord_34 ?_
      refine lv_topi (fun z_4 ez_4 => ?_)
      refine mc_Vi (rest := []) (wr := []) F hK hP hD hS hA (c_signAt l D h0 va tx fk fp ln nx tk st vl tc ft z_4 ) ⟨gk_X2_107.1, gk_X2_107.2, Nat.le_of_ble_eq_true rfl, Nat.le_of_ble_eq_true rfl⟩ [0, 1] [] [0] ⟨rfl, rfl, rfl, rfl, by decide⟩ rfl xT_move (fun _ _ _ => trivial) 0 rfl rfl rfl hl.1 rfl (Nat.le_of_ble_eq_true rfl) dX2_isWord_35 ⟨Nat.le_of_ble_eq_true rfl, Nat.le_of_ble_eq_true rfl⟩ (fun r_5 _ H locs hw hK1 hP hD hS => ?_)
      have hP : va_P D vwCl [(h0, Sum.inr (2, [Value.int fk, Value.int fp, Value.ref va, Value.ref tx, Value.int ln, Value.int nx, Value.int tk, Value.int st, Value.int vl])), (tx, Sum.inl (tc, 400, Sum.inl ft))] H := hP
      have hD : va_D A [(h0, Sum.inr (2, [Value.int fk, Value.int fp, Value.ref va, Value.ref tx, Value.int ln, Value.int nx, Value.int tk, Value.int st, Value.int vl])), (tx, Sum.inl (tc, 400, Sum.inl ft))] := hD
      have hw_6 : r_5 = r_5 := hw
      refine lv_aload_n hx hb dX2_isWord_38 rfl (lv_at hl 1 rfl) ?_
      refine lv_iload_n hx hb dX2_isWord_39 rfl (lv_at hl 2 rfl) ?_
      refine mc_Ki (rest := [Value.int r_5]) (wr := [(h0, Sum.inr (2, [Value.int fk, Value.int fp, Value.ref va, Value.ref tx, Value.int ln, Value.int nx, Value.int tk, Value.int st, Value.int vl])), (tx, Sum.inl (tc, 400, Sum.inl ft))]) F hK hP hD hS hA (c_charAt l D kk i j (by omega) (by omega)) ⟨gk_X2_111.1, gk_X2_111.2, Nat.le_of_ble_eq_true rfl, Nat.le_of_ble_eq_true rfl⟩ [] [0, 1] [] ⟨rfl, rfl, rfl, rfl, by decide⟩ rfl (xS_move kk) (xS_use hX hS (va_free hD hS hA [] rfl)) (x_rvS hX (by omega) hS) rfl hl.1 rfl (Nat.le_of_ble_eq_true rfl) dX2_isWord_40 ⟨Nat.le_of_ble_eq_true rfl, Nat.le_of_ble_eq_true rfl⟩ (fun r_7 _ H locs hw hK1 hP hD hS => ?_)
      have hP : va_P D vwCl [(h0, Sum.inr (2, [Value.int fk, Value.int fp, Value.ref va, Value.ref tx, Value.int ln, Value.int nx, Value.int tk, Value.int st, Value.int vl])), (tx, Sum.inl (tc, 400, Sum.inl ft))] H := hP
      have hD : va_D A [(h0, Sum.inr (2, [Value.int fk, Value.int fp, Value.ref va, Value.ref tx, Value.int ln, Value.int nx, Value.int tk, Value.int st, Value.int vl])), (tx, Sum.inl (tc, 400, Sum.inl ft))] := hD
      have hw_8 : narrow .char (.int r_7) = .int r_7 := hw
      refine lv_icmp_eq (tgt := 48) hx hb dX2_isWord_43 (by decide) (fun c_9 => ?_) (fun c_9 => ?_)
      · skip
        refine lv_iinc (v := nI (j + 1)) (lv' := [(2, Value.int (nI (j + 1))), (0, Value.ref h0), (1, Value.ref (kk i))]) hx hb dX2_isWord_48 hl (k := 2) rfl (nI_add j 1) (by decide) rfl (fun ls hl => ?_)
        refine lv_goto (tgt := 20) hx hb dX2_isWord_51 (by decide) ?_
        exact ih (j + 1) (by omega) (by omega) hl5 (by omega) H locs (hP.sub [0, 1] rfl) (hD.sub [0, 1] (by decide) rfl) hS ls (lv_sub hl [1, 2, 0] rfl)
      · skip
        exact kx_46   H locs (hP.sub [0, 1] rfl) (hD.sub [0, 1] (by decide) rfl) hS ls (lv_sub hl [] rfl)
set_option maxHeartbeats 4000000 in
set_option maxRecDepth 100000 in
theorem c_isWord (l : Launch) (D : va_G) (kk : Nat → Nat) (h0 : Nat) (va : Nat) (tx : Nat) (fk : Int32) (fp : Int32) (ln : Int32) (nx : Int32) (tk : Int32) (st : Int32) (vl : Int32) (tc : ClassId) (ft : Nat → Int32) (i : Nat) (hi7 : i < 7) : cI l yX2_isWord (.code yX2_isWord cX2_isWord 3 (some .boolean)) ({ frames := 6, cells := 0, slots := 0, locals := 166 }) D [(tc, .int)] [(h0, Sum.inr (2, [Value.int fk, Value.int fp, Value.ref va, Value.ref tx, Value.int ln, Value.int nx, Value.int tk, Value.int st, Value.int vl])), (tx, Sum.inl (tc, 400, Sum.inl ft))] (xS kk) [Value.ref h0, Value.ref (kk i)] (S := Unit) (fun r _ => r = 0 ∨ r = 1) (fun _ => []) (fun _ => [(h0, Sum.inr (2, [Value.int fk, Value.int fp, Value.ref va, Value.ref tx, Value.int ln, Value.int nx, Value.int tk, Value.int st, Value.int vl])), (tx, Sum.inl (tc, 400, Sum.inl ft))]) := by
  intro sz
  refine Met.ofW (cc := cX2_isWord) (maxL := 3) (ret := (some .boolean)) (by decide) rfl ?_
  intro p e s m args below meth c s₁ B hml hv
  obtain ⟨rfl, hsz, hP, hK, hD0, hX⟩ := hv
  have hx := B.exec
  have hb := B.bytes
  have hr := B.returns
  have hts0 := atoms_spec (ws := .code yX2_isWord cX2_isWord 3 (some .boolean) :: gw) B.pre
  have hts := fun (w : Cond) (h : w ∈ gw) => hts0 w (List.mem_cons_of_mem _ h)
  have hown : s.vm.findClass RX2 = some m.cls := findClass_of_methodNamed B.named
  have hlocks := B.notSynchronized
  have F : mFix p s m _ c cX2_isWord 3 RX2 := ⟨hx, hb, hml, hown, hts⟩
  subst hsz
  have hD := hD0.self (sz := s.heap.size)
  generalize hAe : va_A [(h0, Sum.inr (2, [Value.int fk, Value.int fp, Value.ref va, Value.ref tx, Value.int ln, Value.int nx, Value.int tk, Value.int st, Value.int vl])), (tx, Sum.inl (tc, 400, Sum.inl ft))] s.heap.size = A at hD hX ⊢
  have hA : ∀ q : Nat, s.heap.size ≤ q → A q := fun q h => by rw [← hAe]; exact Or.inr h
  have hS : va_S A s.heap s.heap [] := va_S.rf
  have hl := lv_entry ([Value.ref h0, Value.ref (kk i)]) (n := 3) (Nat.le_of_ble_eq_true rfl)
  rw [lg_entry_eq]
  generalize (lg_sl ([Value.ref h0, Value.ref (kk i)]) ++ List.replicate (3 - (lg_sl ([Value.ref h0, Value.ref (kk i)])).length) Slot.unset).toArray = ls at hl ⊢
  have hl : lv_has ls 3 [(0, Value.ref h0), (1, Value.ref (kk i))] := hl
  have hP : va_P D vwCl [(h0, Sum.inr (2, [Value.int fk, Value.int fp, Value.ref va, Value.ref tx, Value.int ln, Value.int nx, Value.int tk, Value.int st, Value.int vl])), (tx, Sum.inl (tc, 400, Sum.inl ft))] s.heap := hP
  refine lv_aload_n hx hb dX2_isWord_0 rfl (lv_at hl 0 rfl) ?_
  refine va_get (D := D) (ci := 2) (v := Value.int nx) (C := RX2) (T := TX2) (N := 9) hx hb hts inG_X2 hown hK hP 0 rfl rfl 5 (by decide) (hts _ kw_1_61) (fun _ h9 => h9) rfl dX2_isWord_1 ?_
  refine lv_aload_n hx hb dX2_isWord_4 rfl (lv_at hl 0 rfl) ?_
  refine va_get (D := D) (ci := 2) (v := Value.int st) (C := RX2) (T := TX2) (N := 9) hx hb hts inG_X2 hown hK hP 0 rfl rfl 7 (by decide) (hts _ kw_1_63) (fun _ h9 => h9) rfl dX2_isWord_5 ?_
  refine lv_isub hx hb dX2_isWord_8 ?_
  refine lv_topi (fun z_1 ez_1 => ?_)
  refine lv_aload_n hx hb dX2_isWord_9 rfl (lv_at hl 1 rfl) ?_
  refine mc_Ki (rest := [Value.int z_1]) (wr := [(h0, Sum.inr (2, [Value.int fk, Value.int fp, Value.ref va, Value.ref tx, Value.int ln, Value.int nx, Value.int tk, Value.int st, Value.int vl])), (tx, Sum.inl (tc, 400, Sum.inl ft))]) F hK hP hD hS hA (c_strlen l D kk i (by omega)) ⟨gk_X2_102.1, gk_X2_102.2, Nat.le_of_ble_eq_true rfl, Nat.le_of_ble_eq_true rfl⟩ [] [0, 1] [] ⟨rfl, rfl, rfl, rfl, by decide⟩ rfl (xS_move kk) (xS_use hX hS (va_free hD hS hA [] rfl)) (x_rvS hX (by omega) hS) rfl hl.1 rfl (Nat.le_of_ble_eq_true rfl) dX2_isWord_10 ⟨Nat.le_of_ble_eq_true rfl, Nat.le_of_ble_eq_true rfl⟩ (fun r_2 _ H locs hw hK1 hP hD hS => ?_)
  have hP : va_P D vwCl [(h0, Sum.inr (2, [Value.int fk, Value.int fp, Value.ref va, Value.ref tx, Value.int ln, Value.int nx, Value.int tk, Value.int st, Value.int vl])), (tx, Sum.inl (tc, 400, Sum.inl ft))] H := hP
  have hD : va_D A [(h0, Sum.inr (2, [Value.int fk, Value.int fp, Value.ref va, Value.ref tx, Value.int ln, Value.int nx, Value.int tk, Value.int st, Value.int vl])), (tx, Sum.inl (tc, 400, Sum.inl ft))] := hD
  have hw_3 : r_2 = nI (lenN i) := hw
  obtain rfl : r_2 = nI (lenN i) := hw_3
  refine lv_icmp_eq (tgt := 18) hx hb dX2_isWord_13 (by decide) (fun c_4 => ?_) (fun c_4 => ?_)
  · skip
    refine lv_iconst (v := 0) hx hb dX2_isWord_18 (by decide) ?_
    refine lv_istore_n (lv' := [(2, Value.int 0), (0, Value.ref h0), (1, Value.ref (kk i))]) hx hb dX2_isWord_19 rfl hl (by decide) rfl (fun ls hl => ?_)
    refine lp_isWord F hA kk h0 va tx fk fp ln nx tk st vl tc ft i (hK.sub [0] rfl) hX (fun   H locs hP hD hS ls hl => ?_) (fun   H locs hP hD hS ls hl => ?_) _ 0 (by omega) (by omega) (lenN_le i hi7) (Nat.lt_succ_self _) _ _ (hP.sub [0, 1] rfl) (hD.sub [0, 1] (by decide) rfl) hS ls (lv_sub hl [1, 2, 0] rfl)
    · skip
      refine lv_iconst (v := 0) hx hb dX2_isWord_46 (by decide) ?_
      have hP9 := hP.sub (ws' := [(h0, Sum.inr (2, [Value.int fk, Value.int fp, Value.ref va, Value.ref tx, Value.int ln, Value.int nx, Value.int tk, Value.int st, Value.int vl])), (tx, Sum.inl (tc, 400, Sum.inl ft))]) [0, 1] rfl
      have hD9 := hD.sub (ws' := [(h0, Sum.inr (2, [Value.int fk, Value.int fp, Value.ref va, Value.ref tx, Value.int ln, Value.int nx, Value.int tk, Value.int st, Value.int vl])), (tx, Sum.inl (tc, 400, Sum.inl ft))]) [0, 1] (by decide) rfl
      have hK9 := hK.sub (tys' := []) [] rfl
      refine W.widen (k := 0) (n := 0) (by decide) (by decide) ?_
      exact W.zret (v := 0) hx hb hr rfl (fun t ht hW => ⟨⟨0, (), rfl, Or.inl rfl, by rw [ht]; exact hP9, va_K.moved hW.alike hK9, hD9⟩, hS.F ht⟩) hS.2.2 dX2_isWord_47
    · skip
      refine lv_iconst (v := 1) hx hb dX2_isWord_54 (by decide) ?_
      have hP9 := hP.sub (ws' := [(h0, Sum.inr (2, [Value.int fk, Value.int fp, Value.ref va, Value.ref tx, Value.int ln, Value.int nx, Value.int tk, Value.int st, Value.int vl])), (tx, Sum.inl (tc, 400, Sum.inl ft))]) [0, 1] rfl
      have hD9 := hD.sub (ws' := [(h0, Sum.inr (2, [Value.int fk, Value.int fp, Value.ref va, Value.ref tx, Value.int ln, Value.int nx, Value.int tk, Value.int st, Value.int vl])), (tx, Sum.inl (tc, 400, Sum.inl ft))]) [0, 1] (by decide) rfl
      have hK9 := hK.sub (tys' := []) [] rfl
      refine W.widen (k := 0) (n := 0) (by decide) (by decide) ?_
      exact W.zret (v := 1) hx hb hr rfl (fun t ht hW => ⟨⟨1, (), rfl, Or.inr rfl, by rw [ht]; exact hP9, va_K.moved hW.alike hK9, hD9⟩, hS.F ht⟩) hS.2.2 dX2_isWord_55
  · skip
    refine lv_iconst (v := 0) hx hb dX2_isWord_16 (by decide) ?_
    have hP9 := hP.sub (ws' := [(h0, Sum.inr (2, [Value.int fk, Value.int fp, Value.ref va, Value.ref tx, Value.int ln, Value.int nx, Value.int tk, Value.int st, Value.int vl])), (tx, Sum.inl (tc, 400, Sum.inl ft))]) [0, 1] rfl
    have hD9 := hD.sub (ws' := [(h0, Sum.inr (2, [Value.int fk, Value.int fp, Value.ref va, Value.ref tx, Value.int ln, Value.int nx, Value.int tk, Value.int st, Value.int vl])), (tx, Sum.inl (tc, 400, Sum.inl ft))]) [0, 1] (by decide) rfl
    have hK9 := hK.sub (tys' := []) [] rfl
    refine W.widen (k := 0) (n := 0) (by decide) (by decide) ?_
    exact W.zret (v := 0) hx hb hr rfl (fun t ht hW => ⟨⟨0, (), rfl, Or.inl rfl, by rw [ht]; exact hP9, va_K.moved hW.alike hK9, hD9⟩, hS.F ht⟩) hS.2.2 dX2_isWord_17
set_option maxHeartbeats 4000000 in
set_option maxRecDepth 100000 in
theorem lp_kindOf {p : Program} {l : Launch} {e : Env} {s : State} {m : MethodId} {args : Array Value} {below : List Frame} {meth : Method} {c : Code} {Q : State → Prop} {A : Nat → Prop} {D : va_G} (F : mFix p s m args c cX2_kindOfWord 5 RX2) (hA : ∀ q, s.heap.size ≤ q → A q) (en : Nat → Nat) (kk : Nat → Nat) (h0 : Nat) (va : Nat) (tx : Nat) (fk : Int32) (fp : Int32) (ln : Int32) (nx : Int32) (tk : Int32) (st : Int32) (vl : Int32) (tc : ClassId) (ft : Nat → Int32) (al : Nat) (hK : va_K D vwCl [(tc, .int)] s) (hX : (xR en kk) A s) (hTal : va_T (.object RX5) al 7 (fun j => .ref (en j)) A s s.heap)
    (kx_41 : ∀ (i : Nat), (i < 7) → ∀ (H : Heap) (locs : List Loc), va_P D vwCl [(h0, Sum.inr (2, [Value.int fk, Value.int fp, Value.ref va, Value.ref tx, Value.int ln, Value.int nx, Value.int tk, Value.int st, Value.int vl])), (tx, Sum.inl (tc, 400, Sum.inl ft))] H → va_D A [(h0, Sum.inr (2, [Value.int fk, Value.int fp, Value.ref va, Value.ref tx, Value.int ln, Value.int nx, Value.int tk, Value.int st, Value.int vl])), (tx, Sum.inl (tc, 400, Sum.inl ft))] → va_S A s.heap H locs → ∀ ls : Array Slot, lv_has ls 5 [(4, Value.ref (en i))] → W p l e ({ frames := 7, cells := 0, slots := 0, locals := 188 }) s m args below meth c H locs 0 0 Q (F0 m 41 ls []))
    (kx_50 : ∀ (H : Heap) (locs : List Loc), va_P D vwCl [(h0, Sum.inr (2, [Value.int fk, Value.int fp, Value.ref va, Value.ref tx, Value.int ln, Value.int nx, Value.int tk, Value.int st, Value.int vl])), (tx, Sum.inl (tc, 400, Sum.inl ft))] H → va_D A [(h0, Sum.inr (2, [Value.int fk, Value.int fp, Value.ref va, Value.ref tx, Value.int ln, Value.int nx, Value.int tk, Value.int st, Value.int vl])), (tx, Sum.inl (tc, 400, Sum.inl ft))] → va_S A s.heap H locs → ∀ ls : Array Slot, lv_has ls 5 [] → W p l e ({ frames := 7, cells := 0, slots := 0, locals := 188 }) s m args below meth c H locs 0 0 Q (F0 m 50 ls [])) :
    ∀ n : Nat, ∀ (i : Nat), (i ≤ 7) → (7 - i) < n → ∀ (H : Heap) (locs : List Loc), va_P D vwCl [(h0, Sum.inr (2, [Value.int fk, Value.int fp, Value.ref va, Value.ref tx, Value.int ln, Value.int nx, Value.int tk, Value.int st, Value.int vl])), (tx, Sum.inl (tc, 400, Sum.inl ft))] H → va_D A [(h0, Sum.inr (2, [Value.int fk, Value.int fp, Value.ref va, Value.ref tx, Value.int ln, Value.int nx, Value.int tk, Value.int st, Value.int vl])), (tx, Sum.inl (tc, 400, Sum.inl ft))] → va_S A s.heap H locs → ∀ ls : Array Slot, lv_has ls 5 [(0, Value.ref h0), (1, Value.ref al), (2, Value.int 7), (3, Value.int (nI i))] → W p l e ({ frames := 7, cells := 0, slots := 0, locals := 188 }) s m args below meth c H locs 0 0 Q (F0 m 19 ls []) := by
  intro n
  induction n with
  | zero => intro i hi hn; exact absurd hn (Nat.not_lt_zero _)
  | succ n ih =>
    intro i hi hn H locs hP hD hS ls hl
    obtain ⟨hx, hb, hml, hown, hts⟩ := id F
    refine lv_iload_n hx hb dX2_kindOfWord_19 rfl (lv_at hl 3 rfl) ?_
    refine lv_iload_n hx hb dX2_kindOfWord_20 rfl (lv_at hl 2 rfl) ?_
    refine lv_icmp_ge (tgt := 50) hx hb dX2_kindOfWord_21 (by decide) (fun c_1 => ?_) (fun c_1 => ?_)
    · skip
      have c_1n : 7 ≤ i := (nI_leI (by omega) (by omega)).mp c_1
      have c_1 := Int32.not_lt.mpr c_1
      exact kx_50   H locs (hP.sub [0, 1] rfl) (hD.sub [0, 1] (by decide) rfl) hS ls (lv_sub hl [] rfl)
    · skip
      have c_1n : i < 7 := nb_le (by omega) (by omega) c_1
      have c_1 := Int32.not_le.mp c_1
      refine lv_aload_n hx hb dX2_kindOfWord_24 rfl (lv_at hl 1 rfl) ?_
      refine lv_iload_n hx hb dX2_kindOfWord_25 rfl (lv_at hl 3 rfl) ?_
      refine vb_tq hx hb hTal hS (i := nI i) (vp_in_nI (by omega) (by omega)) (v := Value.ref (en i)) (by rw [nI_clamp (by omega)]) dX2_kindOfWord_26 ?_
      refine lv_astore (lv' := [(4, Value.ref (en i)), (0, Value.ref h0), (1, Value.ref al), (2, Value.int 7), (3, Value.int (nI i))]) hx hb dX2_kindOfWord_27 hl (by decide) rfl (fun ls hl => ?_)
      refine lv_aload_n hx hb dX2_kindOfWord_29 rfl (lv_at hl 1 rfl) ?_
      refine lv_aload hx hb dX2_kindOfWord_30 (lv_at hl 0 rfl) ?_
      refine va_getX hx hb hX.2.2.1 (i := i) (by omega) hS hown (hts _ kw_6_41) (fun _ h9 => h9) dX2_kindOfWord_32 ?_
      refine W.eq (g2 := F0 m 35 ls [Value.ref (kk i), Value.ref h0]) rfl ?_
      refine mc_Vi (rest := []) (wr := []) F hK hP hD hS hA (c_isWord l D kk h0 va tx fk fp ln nx tk st vl tc ft i (by omega)) ⟨gk_X2_98.1, gk_X2_98.2, Nat.le_of_ble_eq_true rfl, Nat.le_of_ble_eq_true rfl⟩ [0, 1] [] [0] ⟨rfl, rfl, rfl, rfl, by decide⟩ rfl (xS_move kk) (xS_use hX.1 hS (va_free hD hS hA [0, 1] rfl)) 0 rfl rfl rfl hl.1 rfl (Nat.le_of_ble_eq_true rfl) dX2_kindOfWord_35 ⟨Nat.le_of_ble_eq_true rfl, Nat.le_of_ble_eq_true rfl⟩ (fun r_2 _ H locs hw hK1 hP hD hS => ?_)
      have hP : va_P D vwCl [(h0, Sum.inr (2, [Value.int fk, Value.int fp, Value.ref va, Value.ref tx, Value.int ln, Value.int nx, Value.int tk, Value.int st, Value.int vl])), (tx, Sum.inl (tc, 400, Sum.inl ft))] H := hP
      have hD : va_D A [(h0, Sum.inr (2, [Value.int fk, Value.int fp, Value.ref va, Value.ref tx, Value.int ln, Value.int nx, Value.int tk, Value.int st, Value.int vl])), (tx, Sum.inl (tc, 400, Sum.inl ft))] := hD
      have hw_3 : r_2 = 0 ∨ r_2 = 1 := hw
      refine lv_if_eq (tgt := 44) hx hb dX2_kindOfWord_38 (by decide) (fun c_4 => ?_) (fun c_4 => ?_)
      · skip
        refine lv_iinc (v := nI (i + 1)) (lv' := [(3, Value.int (nI (i + 1))), (4, Value.ref (en i)), (0, Value.ref h0), (1, Value.ref al), (2, Value.int 7)]) hx hb dX2_kindOfWord_44 hl (k := 4) rfl (nI_add i 1) (by decide) rfl (fun ls hl => ?_)
        refine lv_goto (tgt := 19) hx hb dX2_kindOfWord_47 (by decide) ?_
        exact ih (i + 1) (by omega) (by omega) H locs (hP.sub [0, 1] rfl) (hD.sub [0, 1] (by decide) rfl) hS ls (lv_sub hl [2, 3, 4, 0] rfl)
      · skip
        exact kx_41 i (by omega) H locs (hP.sub [0, 1] rfl) (hD.sub [0, 1] (by decide) rfl) hS ls (lv_sub hl [0] rfl)
set_option maxHeartbeats 4000000 in
set_option maxRecDepth 100000 in
theorem c_kindOfWord (l : Launch) (D : va_G) (en : Nat → Nat) (kk : Nat → Nat) (h0 : Nat) (va : Nat) (tx : Nat) (fk : Int32) (fp : Int32) (ln : Int32) (nx : Int32) (tk : Int32) (st : Int32) (vl : Int32) (tc : ClassId) (ft : Nat → Int32) : cQ l yX2_kindOfWord (.code yX2_kindOfWord cX2_kindOfWord 5 (some (.object "IceFair$LineKind"))) ({ frames := 7, cells := 0, slots := 0, locals := 188 }) D [(tc, .int)] [(h0, Sum.inr (2, [Value.int fk, Value.int fp, Value.ref va, Value.ref tx, Value.int ln, Value.int nx, Value.int tk, Value.int st, Value.int vl])), (tx, Sum.inl (tc, 400, Sum.inl ft))] (xR en kk) [Value.ref h0] (S := Unit) (fun r _ => r = none ∨ ∃ j : Nat, j < 7 ∧ r = some (en j)) (fun _ => []) (fun _ => [(h0, Sum.inr (2, [Value.int fk, Value.int fp, Value.ref va, Value.ref tx, Value.int ln, Value.int nx, Value.int tk, Value.int st, Value.int vl])), (tx, Sum.inl (tc, 400, Sum.inl ft))]) := by
  intro sz
  refine Met.ofW (cc := cX2_kindOfWord) (maxL := 5) (ret := (some (.object "IceFair$LineKind"))) (by decide) rfl ?_
  intro p e s m args below meth c s₁ B hml hv
  obtain ⟨rfl, hsz, hP, hK, hD0, hX⟩ := hv
  have hx := B.exec
  have hb := B.bytes
  have hr := B.returns
  have hts0 := atoms_spec (ws := .code yX2_kindOfWord cX2_kindOfWord 5 (some (.object "IceFair$LineKind")) :: gw) B.pre
  have hts := fun (w : Cond) (h : w ∈ gw) => hts0 w (List.mem_cons_of_mem _ h)
  have hown : s.vm.findClass RX2 = some m.cls := findClass_of_methodNamed B.named
  have hlocks := B.notSynchronized
  have F : mFix p s m _ c cX2_kindOfWord 5 RX2 := ⟨hx, hb, hml, hown, hts⟩
  subst hsz
  have hD := hD0.self (sz := s.heap.size)
  generalize hAe : va_A [(h0, Sum.inr (2, [Value.int fk, Value.int fp, Value.ref va, Value.ref tx, Value.int ln, Value.int nx, Value.int tk, Value.int st, Value.int vl])), (tx, Sum.inl (tc, 400, Sum.inl ft))] s.heap.size = A at hD hX ⊢
  have hA : ∀ q : Nat, s.heap.size ≤ q → A q := fun q h => by rw [← hAe]; exact Or.inr h
  have hS : va_S A s.heap s.heap [] := va_S.rf
  have hl := lv_entry ([Value.ref h0]) (n := 5) (Nat.le_of_ble_eq_true rfl)
  rw [lg_entry_eq]
  generalize (lg_sl ([Value.ref h0]) ++ List.replicate (5 - (lg_sl ([Value.ref h0])).length) Slot.unset).toArray = ls at hl ⊢
  have hl : lv_has ls 5 [(0, Value.ref h0)] := hl
  have hP : va_P D vwCl [(h0, Sum.inr (2, [Value.int fk, Value.int fp, Value.ref va, Value.ref tx, Value.int ln, Value.int nx, Value.int tk, Value.int st, Value.int vl])), (tx, Sum.inl (tc, 400, Sum.inl ft))] s.heap := hP
  refine lv_aload_n hx hb dX2_kindOfWord_0 rfl (lv_at hl 0 rfl) ?_
  refine va_get (D := D) (ci := 2) (v := Value.int tk) (C := RX2) (T := TX2) (N := 9) hx hb hts inG_X2 hown hK hP 0 rfl rfl 6 (by decide) (hts _ kw_1_62) (fun _ h9 => h9) rfl dX2_kindOfWord_1 ?_
  refine lv_iconst (v := 1) hx hb dX2_kindOfWord_4 (by decide) ?_
  refine lv_icmp_eq (tgt := 10) hx hb dX2_kindOfWord_5 (by decide) (fun c_1 => ?_) (fun c_1 => ?_)
  · skip
    obtain ⟨al, hZal, hTal⟩ := id hX.2.2.2.1
    refine va_getsN hx hb hZal hS hown (va_Nw.use rfl hX.2.2.2.2) (fun _ h9 => h9) dX2_kindOfWord_10 ?_
    refine lv_astore_n (lv' := [(1, Value.ref al), (0, Value.ref h0)]) hx hb dX2_kindOfWord_13 rfl hl (by decide) rfl (fun ls hl => ?_)
    refine lv_aload_n hx hb dX2_kindOfWord_14 rfl (lv_at hl 0 rfl) ?_
    refine va_tlen hx hb hTal hS (v := 7) rfl dX2_kindOfWord_15 ?_
    refine lv_istore_n (lv' := [(2, Value.int 7), (1, Value.ref al), (0, Value.ref h0)]) hx hb dX2_kindOfWord_16 rfl hl (by decide) rfl (fun ls hl => ?_)
    refine lv_iconst (v := 0) hx hb dX2_kindOfWord_17 (by decide) ?_
    refine lv_istore_n (lv' := [(3, Value.int 0), (2, Value.int 7), (1, Value.ref al), (0, Value.ref h0)]) hx hb dX2_kindOfWord_18 rfl hl (by decide) rfl (fun ls hl => ?_)
    refine lp_kindOf F hA en kk h0 va tx fk fp ln nx tk st vl tc ft al (hK.sub [0] rfl) hX hTal (fun i_2 h_3 H locs hP hD hS ls hl => ?_) (fun   H locs hP hD hS ls hl => ?_) _ 0 (by omega) (Nat.lt_succ_self _) _ _ (hP.sub [0, 1] rfl) (hD.sub [0, 1] (by decide) rfl) hS ls (lv_sub hl [3, 2, 1, 0] rfl)
    · skip
      have h_3 : i_2 < 7 := h_3
      refine lv_aload hx hb dX2_kindOfWord_41 (lv_at hl 0 rfl) ?_
      have hP9 := hP.sub (ws' := [(h0, Sum.inr (2, [Value.int fk, Value.int fp, Value.ref va, Value.ref tx, Value.int ln, Value.int nx, Value.int tk, Value.int st, Value.int vl])), (tx, Sum.inl (tc, 400, Sum.inl ft))]) [0, 1] rfl
      have hD9 := hD.sub (ws' := [(h0, Sum.inr (2, [Value.int fk, Value.int fp, Value.ref va, Value.ref tx, Value.int ln, Value.int nx, Value.int tk, Value.int st, Value.int vl])), (tx, Sum.inl (tc, 400, Sum.inl ft))]) [0, 1] (by decide) rfl
      have hK9 := hK.sub (tys' := []) [] rfl
      refine W.widen (k := 0) (n := 0) (by decide) (by decide) ?_
      exact W.aret (v := Value.ref (en i_2)) hx hb hr (Or.inl ⟨_, rfl⟩) (Or.inr ⟨_, rfl⟩) (fun t ht hW => ⟨⟨(some (en i_2)), (), rfl, Or.inr ⟨_, h_3, rfl⟩, by rw [ht]; exact hP9, va_K.moved hW.alike hK9, hD9⟩, hS.F ht⟩) hS.2.2 dX2_kindOfWord_43
    · skip
      refine lv_null hx hb dX2_kindOfWord_50 ?_
      have hP9 := hP.sub (ws' := [(h0, Sum.inr (2, [Value.int fk, Value.int fp, Value.ref va, Value.ref tx, Value.int ln, Value.int nx, Value.int tk, Value.int st, Value.int vl])), (tx, Sum.inl (tc, 400, Sum.inl ft))]) [0, 1] rfl
      have hD9 := hD.sub (ws' := [(h0, Sum.inr (2, [Value.int fk, Value.int fp, Value.ref va, Value.ref tx, Value.int ln, Value.int nx, Value.int tk, Value.int st, Value.int vl])), (tx, Sum.inl (tc, 400, Sum.inl ft))]) [0, 1] (by decide) rfl
      have hK9 := hK.sub (tys' := []) [] rfl
      refine W.widen (k := 0) (n := 0) (by decide) (by decide) ?_
      exact W.aret (v := Value.null) hx hb hr (Or.inl ⟨_, rfl⟩) (Or.inl rfl) (fun t ht hW => ⟨⟨none, (), rfl, Or.inl rfl, by rw [ht]; exact hP9, va_K.moved hW.alike hK9, hD9⟩, hS.F ht⟩) hS.2.2 dX2_kindOfWord_51
  · skip
    refine lv_null hx hb dX2_kindOfWord_8 ?_
    have hP9 := hP.sub (ws' := [(h0, Sum.inr (2, [Value.int fk, Value.int fp, Value.ref va, Value.ref tx, Value.int ln, Value.int nx, Value.int tk, Value.int st, Value.int vl])), (tx, Sum.inl (tc, 400, Sum.inl ft))]) [0, 1] rfl
    have hD9 := hD.sub (ws' := [(h0, Sum.inr (2, [Value.int fk, Value.int fp, Value.ref va, Value.ref tx, Value.int ln, Value.int nx, Value.int tk, Value.int st, Value.int vl])), (tx, Sum.inl (tc, 400, Sum.inl ft))]) [0, 1] (by decide) rfl
    have hK9 := hK.sub (tys' := []) [] rfl
    refine W.widen (k := 0) (n := 0) (by decide) (by decide) ?_
    exact W.aret (v := Value.null) hx hb hr (Or.inl ⟨_, rfl⟩) (Or.inl rfl) (fun t ht hW => ⟨⟨none, (), rfl, Or.inl rfl, by rw [ht]; exact hP9, va_K.moved hW.alike hK9, hD9⟩, hS.F ht⟩) hS.2.2 dX2_kindOfWord_9
