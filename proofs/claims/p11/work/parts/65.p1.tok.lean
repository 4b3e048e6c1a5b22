set_option maxHeartbeats 4000000 in
set_option maxRecDepth 100000 in
theorem p_signAt (l : Launch) (D : va_G) (h0 : Nat) (va : Nat) (tx : Nat) (nn : Nat) (nx : Nat) (fk : Int32) (fp : Int32) (tk : Int32) (st : Int32) (vl : Int32) (tc : ClassId) (ft : Nat → Int32) (j : Nat) (hj : j < nn) (hn4 : nn ≤ 400) : cI l yX2_signAt (.code yX2_signAt cX2_signAt 2 (some .int)) ({ frames := 0, cells := 0, slots := 0, locals := 0 }) D [(tc, .int)] [(h0, Sum.inr (2, [Value.int fk, Value.int fp, Value.ref va, Value.ref tx, Value.int (nI nn), Value.int (nI nx), Value.int tk, Value.int st, Value.int vl])), (tx, Sum.inl (tc, 400, Sum.inl ft))] xT [Value.ref h0, Value.int (nI j)] (S := Unit) (fun r _ => r = ft j) (fun _ => []) (fun _ => [(h0, Sum.inr (2, [Value.int fk, Value.int fp, Value.ref va, Value.ref tx, Value.int (nI nn), Value.int (nI nx), Value.int tk, Value.int st, Value.int vl])), (tx, Sum.inl (tc, 400, Sum.inl ft))]) := by
  intro sz
  refine Met.ofW (cc := cX2_signAt) (maxL := 2) (ret := (some .int)) (by decide) rfl ?_
  intro p e s m args below meth c s₁ B hml hv
  obtain ⟨rfl, hsz, hP, hK, hD0, hX⟩ := hv
  have hx := B.exec
  have hb := B.bytes
  have hr := B.returns
  have hts0 := atoms_spec (ws := .code yX2_signAt cX2_signAt 2 (some .int) :: gw) B.pre
  have hts := fun (w : Cond) (h : w ∈ gw) => hts0 w (List.mem_cons_of_mem _ h)
  have hown : s.vm.findClass RX2 = some m.cls := findClass_of_methodNamed B.named
  have hlocks := B.notSynchronized
  have F : mFix p s m _ c cX2_signAt 2 RX2 := ⟨hx, hb, hml, hown, hts⟩
  subst hsz
  have hD := hD0.self (sz := s.heap.size)
  generalize hAe : va_A [(h0, Sum.inr (2, [Value.int fk, Value.int fp, Value.ref va, Value.ref tx, Value.int (nI nn), Value.int (nI nx), Value.int tk, Value.int st, Value.int vl])), (tx, Sum.inl (tc, 400, Sum.inl ft))] s.heap.size = A at hD hX ⊢
  have hA : ∀ q : Nat, s.heap.size ≤ q → A q := fun q h => by rw [← hAe]; exact Or.inr h
  have hS : va_S A s.heap s.heap [] := va_S.rf
  have hl := lv_entry ([Value.ref h0, Value.int (nI j)]) (n := 2) (Nat.le_of_ble_eq_true rfl)
  rw [lg_entry_eq]
  generalize (lg_sl ([Value.ref h0, Value.int (nI j)]) ++ List.replicate (2 - (lg_sl ([Value.ref h0, Value.int (nI j)])).length) Slot.unset).toArray = ls at hl ⊢
  have hl : lv_has ls 2 [(0, Value.ref h0), (1, Value.int (nI j))] := hl
  have hP : va_P D vwCl [(h0, Sum.inr (2, [Value.int fk, Value.int fp, Value.ref va, Value.ref tx, Value.int (nI nn), Value.int (nI nx), Value.int tk, Value.int st, Value.int vl])), (tx, Sum.inl (tc, 400, Sum.inl ft))] s.heap := hP
  refine lv_iload_n hx hb dX2_signAt_0 rfl (lv_at hl 1 rfl) ?_
  refine lv_if_lt (tgt := 30) hx hb dX2_signAt_1 (by decide) (fun c_1 => absurd c_1 (nI_pos (by omega))) (fun c_1 => ?_)
  have c_1n : 0 ≤ j := nb_lt (by omega) (by omega) c_1
  refine lv_iload_n hx hb dX2_signAt_4 rfl (lv_at hl 1 rfl) ?_
  refine lv_aload_n hx hb dX2_signAt_5 rfl (lv_at hl 0 rfl) ?_
  refine va_get (D := D) (ci := 2) (v := Value.int (nI nn)) (C := RX2) (T := TX2) (N := 9) hx hb hts inG_X2 hown hK hP 0 rfl rfl 4 (by decide) (hts _ kw_1_60) (fun _ h9 => h9) rfl dX2_signAt_6 ?_
  refine lv_icmp_ge (tgt := 30) hx hb dX2_signAt_9 (by decide) (fun c_2 => absurd ((nI_leI (by omega) (by omega)).mp c_2) (by omega)) (fun c_2 => ?_)
  have c_2n : j < nn := nb_le (by omega) (by omega) c_2
  have c_2 := Int32.not_le.mp c_2
  refine lv_iload_n hx hb dX2_signAt_12 rfl (lv_at hl 1 rfl) ?_
  refine lv_aload_n hx hb dX2_signAt_13 rfl (lv_at hl 0 rfl) ?_
  refine va_get (D := D) (ci := 2) (v := Value.ref tx) (C := RX2) (T := TX2) (N := 9) hx hb hts inG_X2 hown hK hP 0 rfl rfl 3 (by decide) (hts _ kw_1_59) (fun _ h9 => h9) rfl dX2_signAt_14 ?_
  refine va_alen hx hb hK hP 1 0 rfl rfl (v := 400) rfl dX2_signAt_17 ?_
  refine lv_icmp_ge (tgt := 30) hx hb dX2_signAt_18 (by decide) (fun c_3 => absurd ((nI_leI (a := 400) (b := j) (by decide) (by omega)).mp c_3) (by omega)) (fun c_3 => ?_)
  have c_3n : j < 400 := nb_le (by omega) (by omega) c_3
  have c_3 := Int32.not_le.mp c_3
  refine lv_aload_n hx hb dX2_signAt_21 rfl (lv_at hl 0 rfl) ?_
  refine va_get (D := D) (ci := 2) (v := Value.ref tx) (C := RX2) (T := TX2) (N := 9) hx hb hts inG_X2 hown hK hP 0 rfl rfl 3 (by decide) (hts _ kw_1_59) (fun _ h9 => h9) rfl dX2_signAt_22 ?_
  refine lv_iload_n hx hb dX2_signAt_25 rfl (lv_at hl 1 rfl) ?_
  refine m_iald hx hb hK hP 1 0 rfl rfl j rfl (by omega) (by decide) dX2_signAt_26 ?_
  refine lv_topi (fun v_4 ev_4 => ?_)
  refine lv_goto (tgt := 31) hx hb dX2_signAt_27 (by decide) ?_
  have hP9 := hP.sub (ws' := [(h0, Sum.inr (2, [Value.int fk, Value.int fp, Value.ref va, Value.ref tx, Value.int (nI nn), Value.int (nI nx), Value.int tk, Value.int st, Value.int vl])), (tx, Sum.inl (tc, 400, Sum.inl ft))]) [0, 1] rfl
  have hD9 := hD.sub (ws' := [(h0, Sum.inr (2, [Value.int fk, Value.int fp, Value.ref va, Value.ref tx, Value.int (nI nn), Value.int (nI nx), Value.int tk, Value.int st, Value.int vl])), (tx, Sum.inl (tc, 400, Sum.inl ft))]) [0, 1] (by decide) rfl
  have hK9 := hK.sub (tys' := []) [] rfl
  refine W.widen (k := 0) (n := 0) (by decide) (by decide) ?_
  exact W.iret (v := v_4) hx hb hr (fun t ht hW => ⟨⟨v_4, (), rfl, ev_4, by rw [ht]; exact hP9, va_K.moved hW.alike hK9, hD9⟩, hS.F ht⟩) hS.2.2 dX2_signAt_31
set_option maxHeartbeats 4000000 in
set_option maxRecDepth 100000 in
theorem p_isBlank (l : Launch) (D : va_G) (x : Int32) : cI l yX2_isBlank (.code yX2_isBlank cX2_isBlank 1 (some .boolean)) ({ frames := 0, cells := 0, slots := 0, locals := 0 }) D [] [] xT [Value.int x] (S := Unit) (fun r _ => r = (if x = 10 ∨ x = 32 then 1 else 0)) (fun _ => []) (fun _ => []) := by
  intro sz
  refine Met.ofW (cc := cX2_isBlank) (maxL := 1) (ret := (some .boolean)) (by decide) rfl ?_
  intro p e s m args below meth c s₁ B hml hv
  obtain ⟨rfl, hsz, hP, hK, hD0, hX⟩ := hv
  have hx := B.exec
  have hb := B.bytes
  have hr := B.returns
  have hts0 := atoms_spec (ws := .code yX2_isBlank cX2_isBlank 1 (some .boolean) :: gw) B.pre
  have hts := fun (w : Cond) (h : w ∈ gw) => hts0 w (List.mem_cons_of_mem _ h)
  have hown : s.vm.findClass RX2 = some m.cls := findClass_of_methodNamed B.named
  have hlocks := B.notSynchronized
  have F : mFix p s m _ c cX2_isBlank 1 RX2 := ⟨hx, hb, hml, hown, hts⟩
  subst hsz
  have hD := hD0.self (sz := s.heap.size)
  generalize hAe : va_A [] s.heap.size = A at hD hX ⊢
  have hA : ∀ q : Nat, s.heap.size ≤ q → A q := fun q h => by rw [← hAe]; exact Or.inr h
  have hS : va_S A s.heap s.heap [] := va_S.rf
  have hl := lv_entry ([Value.int x]) (n := 1) (Nat.le_of_ble_eq_true rfl)
  rw [lg_entry_eq]
  generalize (lg_sl ([Value.int x]) ++ List.replicate (1 - (lg_sl ([Value.int x])).length) Slot.unset).toArray = ls at hl ⊢
  have hl : lv_has ls 1 [(0, Value.int x)] := hl
  have hP : va_P D vwCl [] s.heap := hP
  refine lv_iload_n hx hb dX2_isBlank_0 rfl (lv_at hl 0 rfl) ?_
  refine lv_bipush (v := 10) hx hb dX2_isBlank_1 (by decide) ?_
  refine lv_icmp_eq (tgt := 12) hx hb dX2_isBlank_3 (by decide) (fun c_1 => ?_) (fun c_1 => ?_)
  · skip
    refine lv_iconst (v := 1) hx hb dX2_isBlank_12 (by decide) ?_
    refine lv_goto (tgt := 17) hx hb dX2_isBlank_13 (by decide) ?_
    have hP9 := hP.sub (ws' := []) [] rfl
    have hD9 := hD.sub (ws' := []) [] (by decide) rfl
    have hK9 := hK.sub (tys' := []) [] rfl
    refine W.widen (k := 0) (n := 0) (by decide) (by decide) ?_
    exact W.zret (v := 1) hx hb hr rfl (fun t ht hW => ⟨⟨1, (), rfl, by simp only [c_1, or_false, false_or, or_true, true_or, not_true_eq_false, not_false_eq_true, ↓reduceIte], by rw [ht]; exact hP9, va_K.moved hW.alike hK9, hD9⟩, hS.F ht⟩) hS.2.2 dX2_isBlank_17
  · skip
    refine lv_iload_n hx hb dX2_isBlank_6 rfl (lv_at hl 0 rfl) ?_
    refine lv_bipush (v := 32) hx hb dX2_isBlank_7 (by decide) ?_
    refine lv_icmp_ne (tgt := 16) hx hb dX2_isBlank_9 (by decide) (fun c_2 => ?_) (fun c_2 => ?_)
    · skip
      refine lv_iconst (v := 0) hx hb dX2_isBlank_16 (by decide) ?_
      have hP9 := hP.sub (ws' := []) [] rfl
      have hD9 := hD.sub (ws' := []) [] (by decide) rfl
      have hK9 := hK.sub (tys' := []) [] rfl
      refine W.widen (k := 0) (n := 0) (by decide) (by decide) ?_
      exact W.zret (v := 0) hx hb hr rfl (fun t ht hW => ⟨⟨0, (), rfl, by simp only [c_1, c_2, or_false, false_or, or_true, true_or, not_true_eq_false, not_false_eq_true, ↓reduceIte], by rw [ht]; exact hP9, va_K.moved hW.alike hK9, hD9⟩, hS.F ht⟩) hS.2.2 dX2_isBlank_17
    · skip
      refine lv_iconst (v := 1) hx hb dX2_isBlank_12 (by decide) ?_
      refine lv_goto (tgt := 17) hx hb dX2_isBlank_13 (by decide) ?_
      have hP9 := hP.sub (ws' := []) [] rfl
      have hD9 := hD.sub (ws' := []) [] (by decide) rfl
      have hK9 := hK.sub (tys' := []) [] rfl
      refine W.widen (k := 0) (n := 0) (by decide) (by decide) ?_
      exact W.zret (v := 1) hx hb hr rfl (fun t ht hW => ⟨⟨1, (), rfl, by simp only [c_1, c_2, or_false, false_or, or_true, true_or, not_true_eq_false, not_false_eq_true, ↓reduceIte], by rw [ht]; exact hP9, va_K.moved hW.alike hK9, hD9⟩, hS.F ht⟩) hS.2.2 dX2_isBlank_17
set_option maxHeartbeats 4000000 in
set_option maxRecDepth 100000 in
theorem p_isLetter (l : Launch) (D : va_G) (x : Int32) : cI l yX2_isLetter (.code yX2_isLetter cX2_isLetter 1 (some .boolean)) ({ frames := 0, cells := 0, slots := 0, locals := 0 }) D [] [] xT [Value.int x] (S := Unit) (fun r _ => r = (if x < 97 ∨ 122 < x then 0 else 1)) (fun _ => []) (fun _ => []) := by
  intro sz
  refine Met.ofW (cc := cX2_isLetter) (maxL := 1) (ret := (some .boolean)) (by decide) rfl ?_
  intro p e s m args below meth c s₁ B hml hv
  obtain ⟨rfl, hsz, hP, hK, hD0, hX⟩ := hv
  have hx := B.exec
  have hb := B.bytes
  have hr := B.returns
  have hts0 := atoms_spec (ws := .code yX2_isLetter cX2_isLetter 1 (some .boolean) :: gw) B.pre
  have hts := fun (w : Cond) (h : w ∈ gw) => hts0 w (List.mem_cons_of_mem _ h)
  have hown : s.vm.findClass RX2 = some m.cls := findClass_of_methodNamed B.named
  have hlocks := B.notSynchronized
  have F : mFix p s m _ c cX2_isLetter 1 RX2 := ⟨hx, hb, hml, hown, hts⟩
  subst hsz
  have hD := hD0.self (sz := s.heap.size)
  generalize hAe : va_A [] s.heap.size = A at hD hX ⊢
  have hA : ∀ q : Nat, s.heap.size ≤ q → A q := fun q h => by rw [← hAe]; exact Or.inr h
  have hS : va_S A s.heap s.heap [] := va_S.rf
  have hl := lv_entry ([Value.int x]) (n := 1) (Nat.le_of_ble_eq_true rfl)
  rw [lg_entry_eq]
  generalize (lg_sl ([Value.int x]) ++ List.replicate (1 - (lg_sl ([Value.int x])).length) Slot.unset).toArray = ls at hl ⊢
  have hl : lv_has ls 1 [(0, Value.int x)] := hl
  have hP : va_P D vwCl [] s.heap := hP
  refine lv_iload_n hx hb dX2_isLetter_0 rfl (lv_at hl 0 rfl) ?_
  refine lv_bipush (v := 97) hx hb dX2_isLetter_1 (by decide) ?_
  refine lv_icmp_lt (tgt := 16) hx hb dX2_isLetter_3 (by decide) (fun c_1 => ?_) (fun c_1 => ?_)
  · skip
    refine lv_iconst (v := 0) hx hb dX2_isLetter_16 (by decide) ?_
    have hP9 := hP.sub (ws' := []) [] rfl
    have hD9 := hD.sub (ws' := []) [] (by decide) rfl
    have hK9 := hK.sub (tys' := []) [] rfl
    refine W.widen (k := 0) (n := 0) (by decide) (by decide) ?_
    exact W.zret (v := 0) hx hb hr rfl (fun t ht hW => ⟨⟨0, (), rfl, by simp only [c_1, or_false, false_or, or_true, true_or, not_true_eq_false, not_false_eq_true, ↓reduceIte], by rw [ht]; exact hP9, va_K.moved hW.alike hK9, hD9⟩, hS.F ht⟩) hS.2.2 dX2_isLetter_17
  · skip
    refine lv_iload_n hx hb dX2_isLetter_6 rfl (lv_at hl 0 rfl) ?_
    refine lv_bipush (v := 122) hx hb dX2_isLetter_7 (by decide) ?_
    refine lv_icmp_gt (tgt := 16) hx hb dX2_isLetter_9 (by decide) (fun c_2 => ?_) (fun c_2 => ?_)
    · skip
      refine lv_iconst (v := 0) hx hb dX2_isLetter_16 (by decide) ?_
      have hP9 := hP.sub (ws' := []) [] rfl
      have hD9 := hD.sub (ws' := []) [] (by decide) rfl
      have hK9 := hK.sub (tys' := []) [] rfl
      refine W.widen (k := 0) (n := 0) (by decide) (by decide) ?_
      exact W.zret (v := 0) hx hb hr rfl (fun t ht hW => ⟨⟨0, (), rfl, by simp only [c_1, c_2, or_false, false_or, or_true, true_or, not_true_eq_false, not_false_eq_true, ↓reduceIte], by rw [ht]; exact hP9, va_K.moved hW.alike hK9, hD9⟩, hS.F ht⟩) hS.2.2 dX2_isLetter_17
    · skip
      refine lv_iconst (v := 1) hx hb dX2_isLetter_12 (by decide) ?_
      refine lv_goto (tgt := 17) hx hb dX2_isLetter_13 (by decide) ?_
      have hP9 := hP.sub (ws' := []) [] rfl
      have hD9 := hD.sub (ws' := []) [] (by decide) rfl
      have hK9 := hK.sub (tys' := []) [] rfl
      refine W.widen (k := 0) (n := 0) (by decide) (by decide) ?_
      exact W.zret (v := 1) hx hb hr rfl (fun t ht hW => ⟨⟨1, (), rfl, by simp only [c_1, c_2, or_false, false_or, or_true, true_or, not_true_eq_false, not_false_eq_true, ↓reduceIte], by rw [ht]; exact hP9, va_K.moved hW.alike hK9, hD9⟩, hS.F ht⟩) hS.2.2 dX2_isLetter_17
set_option maxHeartbeats 4000000 in
set_option maxRecDepth 100000 in
theorem p_isDigit (l : Launch) (D : va_G) (x : Int32) : cI l yX2_isDigit (.code yX2_isDigit cX2_isDigit 1 (some .boolean)) ({ frames := 0, cells := 0, slots := 0, locals := 0 }) D [] [] xT [Value.int x] (S := Unit) (fun r _ => r = (if x < 48 ∨ 57 < x then 0 else 1)) (fun _ => []) (fun _ => []) := by
  intro sz
  refine Met.ofW (cc := cX2_isDigit) (maxL := 1) (ret := (some .boolean)) (by decide) rfl ?_
  intro p e s m args below meth c s₁ B hml hv
  obtain ⟨rfl, hsz, hP, hK, hD0, hX⟩ := hv
  have hx := B.exec
  have hb := B.bytes
  have hr := B.returns
  have hts0 := atoms_spec (ws := .code yX2_isDigit cX2_isDigit 1 (some .boolean) :: gw) B.pre
  have hts := fun (w : Cond) (h : w ∈ gw) => hts0 w (List.mem_cons_of_mem _ h)
  have hown : s.vm.findClass RX2 = some m.cls := findClass_of_methodNamed B.named
  have hlocks := B.notSynchronized
  have F : mFix p s m _ c cX2_isDigit 1 RX2 := ⟨hx, hb, hml, hown, hts⟩
  subst hsz
  have hD := hD0.self (sz := s.heap.size)
  generalize hAe : va_A [] s.heap.size = A at hD hX ⊢
  have hA : ∀ q : Nat, s.heap.size ≤ q → A q := fun q h => by rw [← hAe]; exact Or.inr h
  have hS : va_S A s.heap s.heap [] := va_S.rf
  have hl := lv_entry ([Value.int x]) (n := 1) (Nat.le_of_ble_eq_true rfl)
  rw [lg_entry_eq]
  generalize (lg_sl ([Value.int x]) ++ List.replicate (1 - (lg_sl ([Value.int x])).length) Slot.unset).toArray = ls at hl ⊢
  have hl : lv_has ls 1 [(0, Value.int x)] := hl
  have hP : va_P D vwCl [] s.heap := hP
  refine lv_iload_n hx hb dX2_isDigit_0 rfl (lv_at hl 0 rfl) ?_
  refine lv_bipush (v := 48) hx hb dX2_isDigit_1 (by decide) ?_
  refine lv_icmp_lt (tgt := 16) hx hb dX2_isDigit_3 (by decide) (fun c_1 => ?_) (fun c_1 => ?_)
  · skip
    refine lv_iconst (v := 0) hx hb dX2_isDigit_16 (by decide) ?_
    have hP9 := hP.sub (ws' := []) [] rfl
    have hD9 := hD.sub (ws' := []) [] (by decide) rfl
    have hK9 := hK.sub (tys' := []) [] rfl
    refine W.widen (k := 0) (n := 0) (by decide) (by decide) ?_
    exact W.zret (v := 0) hx hb hr rfl (fun t ht hW => ⟨⟨0, (), rfl, by simp only [c_1, or_false, false_or, or_true, true_or, not_true_eq_false, not_false_eq_true, ↓reduceIte], by rw [ht]; exact hP9, va_K.moved hW.alike hK9, hD9⟩, hS.F ht⟩) hS.2.2 dX2_isDigit_17
  · skip
    refine lv_iload_n hx hb dX2_isDigit_6 rfl (lv_at hl 0 rfl) ?_
    refine lv_bipush (v := 57) hx hb dX2_isDigit_7 (by decide) ?_
    refine lv_icmp_gt (tgt := 16) hx hb dX2_isDigit_9 (by decide) (fun c_2 => ?_) (fun c_2 => ?_)
    · skip
      refine lv_iconst (v := 0) hx hb dX2_isDigit_16 (by decide) ?_
      have hP9 := hP.sub (ws' := []) [] rfl
      have hD9 := hD.sub (ws' := []) [] (by decide) rfl
      have hK9 := hK.sub (tys' := []) [] rfl
      refine W.widen (k := 0) (n := 0) (by decide) (by decide) ?_
      exact W.zret (v := 0) hx hb hr rfl (fun t ht hW => ⟨⟨0, (), rfl, by simp only [c_1, c_2, or_false, false_or, or_true, true_or, not_true_eq_false, not_false_eq_true, ↓reduceIte], by rw [ht]; exact hP9, va_K.moved hW.alike hK9, hD9⟩, hS.F ht⟩) hS.2.2 dX2_isDigit_17
    · skip
      refine lv_iconst (v := 1) hx hb dX2_isDigit_12 (by decide) ?_
      refine lv_goto (tgt := 17) hx hb dX2_isDigit_13 (by decide) ?_
      have hP9 := hP.sub (ws' := []) [] rfl
      have hD9 := hD.sub (ws' := []) [] (by decide) rfl
      have hK9 := hK.sub (tys' := []) [] rfl
      refine W.widen (k := 0) (n := 0) (by decide) (by decide) ?_
      exact W.zret (v := 1) hx hb hr rfl (fun t ht hW => ⟨⟨1, (), rfl, by simp only [c_1, c_2, or_false, false_or, or_true, true_or, not_true_eq_false, not_false_eq_true, ↓reduceIte], by rw [ht]; exact hP9, va_K.moved hW.alike hK9, hD9⟩, hS.F ht⟩) hS.2.2 dX2_isDigit_17
set_option maxHeartbeats 4000000 in
set_option maxRecDepth 100000 in
theorem lp_p_takeWord {p : Program} {l : Launch} {e : Env} {s : State} {m : MethodId} {args : Array Value} {below : List Frame} {meth : Method} {c : Code} {Q : State → Prop} {A : Nat → Prop} {D : va_G} (F : mFix p s m args c cX2_takeWord 1 RX2) (hA : ∀ q, s.heap.size ≤ q → A q) (h0 : Nat) (va : Nat) (tx : Nat) (nn : Nat) (fk : Int32) (fp : Int32) (tk : Int32) (st : Int32) (vl : Int32) (tc : ClassId) (ft : Nat → Int32) (E : Nat) (hK : va_K D vwCl [(tc, .int)] s)
    (kx_43 : ∀ (H : Heap) (locs : List Loc), va_P D vwCl [(h0, Sum.inr (2, [Value.int fk, Value.int fp, Value.ref va, Value.ref tx, Value.int (nI nn), Value.int (nI E), Value.int tk, Value.int st, Value.int vl])), (tx, Sum.inl (tc, 400, Sum.inl ft))] H → va_D A [(h0, Sum.inr (2, [Value.int fk, Value.int fp, Value.ref va, Value.ref tx, Value.int (nI nn), Value.int (nI E), Value.int tk, Value.int st, Value.int vl])), (tx, Sum.inl (tc, 400, Sum.inl ft))] → va_S A s.heap H locs → ∀ ls : Array Slot, lv_has ls 1 [] → W p l e ({ frames := 1, cells := 0, slots := 0, locals := 21 }) s m args below meth c H locs 0 0 Q (F0 m 43 ls [])) :
    ∀ n : Nat, ∀ (nx : Nat), (nx ≤ nn) → (nn ≤ 400) → (run (cLt ft) nn nx = E) → (nn - nx) < n → ∀ (H : Heap) (locs : List Loc), va_P D vwCl [(h0, Sum.inr (2, [Value.int fk, Value.int fp, Value.ref va, Value.ref tx, Value.int (nI nn), Value.int (nI nx), Value.int tk, Value.int st, Value.int vl])), (tx, Sum.inl (tc, 400, Sum.inl ft))] H → va_D A [(h0, Sum.inr (2, [Value.int fk, Value.int fp, Value.ref va, Value.ref tx, Value.int (nI nn), Value.int (nI nx), Value.int tk, Value.int st, Value.int vl])), (tx, Sum.inl (tc, 400, Sum.inl ft))] → va_S A s.heap H locs → ∀ ls : Array Slot, lv_has ls 1 [(0, Value.ref h0)] → W p l e ({ frames := 1, cells := 0, slots := 0, locals := 21 }) s m args below meth c H locs 0 0 Q (F0 m 5 ls []) := by
  intro n
  induction n with
  | zero => intro nx hnxn hn4 hrun hn; exact absurd hn (Nat.not_lt_zero _)
  | succ n ih =>
    intro nx hnxn hn4 hrun hn H locs hP hD hS ls hl
    obtain ⟨hx, hb, hml, hown, hts⟩ := id F
    refine lv_aload_n hx hb dX2_takeWord_5 rfl (lv_at hl 0 rfl) ?_
    refine va_get (D := D) (ci := 2) (v := Value.int (nI nx)) (C := RX2) (T := TX2) (N := 9) hx hb hts inG_X2 hown hK hP 0 rfl rfl 5 (by decide) (hts _ kw_1_61) (fun _ h9 => h9) rfl dX2_takeWord_6 ?_
    refine lv_aload_n hx hb dX2_takeWord_9 rfl (lv_at hl 0 rfl) ?_
    refine va_get (D := D) (ci := 2) (v := Value.int (nI nn)) (C := RX2) (T := TX2) (N := 9) hx hb hts inG_X2 hown hK hP 0 rfl rfl 4 (by decide) (hts _ kw_1_60) (fun _ h9 => h9) rfl dX2_takeWord_10 ?_
    refine lv_icmp_ge (tgt := 43) hx hb dX2_takeWord_13 (by decide) (fun c_1 => ?_) (fun c_1 => ?_)
    · skip
      have c_1n : nn ≤ nx := (nI_leI (by omega) (by omega)).mp c_1
      have c_1 := Int32.not_lt.mpr c_1
      obtain rfl : E = nx := hrun.symm.trans (run_st (Or.inl c_1n))
      exact kx_43   H locs (hP.sub [0, 1] rfl) (hD.sub [0, 1] (by decide) rfl) hS ls (lv_sub hl [] rfl)
    · skip
      have c_1n : nx < nn := nb_le (by omega) (by omega) c_1
      have c_1 := Int32.not_le.mp c_1
      refine lv_aload_n hx hb dX2_takeWord_16 rfl (lv_at hl 0 rfl) ?_
      refine lv_aload_n hx hb dX2_takeWord_17 rfl (lv_at hl 0 rfl) ?_
      refine va_get (D := D) (ci := 2) (v := Value.int (nI nx)) (C := RX2) (T := TX2) (N := 9) hx hb hts inG_X2 hown hK hP 0 rfl rfl 5 (by decide) (hts _ kw_1_61) (fun _ h9 => h9) rfl dX2_takeWord_18 ?_
      refine mc_Vi (rest := []) (wr := []) F hK hP hD hS hA (p_signAt l D h0 va tx nn nx fk fp tk st vl tc ft nx (by omega) (by omega)) ⟨gk_X2_107.1, gk_X2_107.2, Nat.le_of_ble_eq_true rfl, Nat.le_of_ble_eq_true rfl⟩ [0, 1] [] [0] ⟨rfl, rfl, rfl, rfl, by decide⟩ rfl xT_move (fun _ _ _ => trivial) 0 rfl rfl rfl hl.1 rfl (Nat.le_of_ble_eq_true rfl) dX2_takeWord_21 ⟨Nat.le_of_ble_eq_true rfl, Nat.le_of_ble_eq_true rfl⟩ (fun r_2 _ H locs hw hK1 hP hD hS => ?_)
      have hP : va_P D vwCl [(h0, Sum.inr (2, [Value.int fk, Value.int fp, Value.ref va, Value.ref tx, Value.int (nI nn), Value.int (nI nx), Value.int tk, Value.int st, Value.int vl])), (tx, Sum.inl (tc, 400, Sum.inl ft))] H := hP
      have hD : va_D A [(h0, Sum.inr (2, [Value.int fk, Value.int fp, Value.ref va, Value.ref tx, Value.int (nI nn), Value.int (nI nx), Value.int tk, Value.int st, Value.int vl])), (tx, Sum.inl (tc, 400, Sum.inl ft))] := hD
      have hw_3 : r_2 = ft nx := hw
      obtain rfl : r_2 = ft nx := hw_3
      refine mc_Si (rest := []) (wr := [(h0, Sum.inr (2, [Value.int fk, Value.int fp, Value.ref va, Value.ref tx, Value.int (nI nn), Value.int (nI nx), Value.int tk, Value.int st, Value.int vl])), (tx, Sum.inl (tc, 400, Sum.inl ft))]) F hK hP hD hS hA (p_isLetter l D (ft nx) ) ⟨gk_X2_119.1, gk_X2_119.2, Nat.le_of_ble_eq_true rfl, Nat.le_of_ble_eq_true rfl⟩ [] [0, 1] [] ⟨rfl, rfl, rfl, rfl, by decide⟩ rfl xT_move (fun _ _ _ => trivial) rfl hl.1 rfl (Nat.le_of_ble_eq_true rfl) dX2_takeWord_24 ⟨Nat.le_of_ble_eq_true rfl, Nat.le_of_ble_eq_true rfl⟩ (fun r_4 _ H locs hw hK1 hP hD hS => ?_)
      have hP : va_P D vwCl [(h0, Sum.inr (2, [Value.int fk, Value.int fp, Value.ref va, Value.ref tx, Value.int (nI nn), Value.int (nI nx), Value.int tk, Value.int st, Value.int vl])), (tx, Sum.inl (tc, 400, Sum.inl ft))] H := hP
      have hD : va_D A [(h0, Sum.inr (2, [Value.int fk, Value.int fp, Value.ref va, Value.ref tx, Value.int (nI nn), Value.int (nI nx), Value.int tk, Value.int st, Value.int vl])), (tx, Sum.inl (tc, 400, Sum.inl ft))] := hD
      have hw_5 : r_4 = (if (ft nx) < 97 ∨ 122 < (ft nx) then 0 else 1) := hw
      by_cases hc_6 : (ft nx) < 97 ∨ 122 < (ft nx)
      · skip
        obtain rfl : r_4 = 0 := by rw [hw_5, if_pos hc_6]
        obtain rfl : E = nx := hrun.symm.trans (run_st (Or.inr (cLt_f hc_6)))
        have hl : lv_has ls 1 [(0, Value.ref h0)] := hl
        refine lv_if_eq (tgt := 43) hx hb dX2_takeWord_27 (by decide) (fun c_7 => ?_) (fun c_7 => absurd c_7 (by decide))
        exact kx_43   H locs (hP.sub [0, 1] rfl) (hD.sub [0, 1] (by decide) rfl) hS ls (lv_sub hl [] rfl)
      · skip
        obtain rfl : r_4 = 1 := by rw [hw_5, if_neg hc_6]
        refine lv_if_eq (tgt := 43) hx hb dX2_takeWord_27 (by decide) (fun c_8 => absurd c_8 (by decide)) (fun c_8 => ?_)
        refine lv_aload_n hx hb dX2_takeWord_30 rfl (lv_at hl 0 rfl) ?_
        refine lv_dup hx hb dX2_takeWord_31 rfl ?_
        refine va_get (D := D) (ci := 2) (v := Value.int (nI nx)) (C := RX2) (T := TX2) (N := 9) hx hb hts inG_X2 hown hK hP 0 rfl rfl 5 (by decide) (hts _ kw_1_61) (fun _ h9 => h9) rfl dX2_takeWord_32 ?_
        refine lv_iconst (v := 1) hx hb dX2_takeWord_35 (by decide) ?_
        refine lv_iadd hx hb dX2_takeWord_36 ?_
        refine lv_topi (fun z_9 ez_9 => ?_)
        obtain rfl : z_9 = nI (nx + 1) := ez_9.trans (nI_add nx 1)
        refine va_put (D := D) (ci := 2) (v := Value.int (nI (nx + 1))) (ty := .int) (C := RX2) (T := TX2) (N := 9) hx hb hts inG_X2 tyX2 tyX2_ok nmX2 hown hK hP hD hS 0 rfl rfl 5 (by decide) (hts _ kw_1_61) (fun _ h9 => h9) rfl (by decide +kernel) rfl rfl (Nat.le_of_ble_eq_true rfl) dX2_takeWord_37 (fun H locs hP hD hS => ?_)
        have hP : va_P D vwCl [(h0, Sum.inr (2, [Value.int fk, Value.int fp, Value.ref va, Value.ref tx, Value.int (nI nn), Value.int (nI (nx + 1)), Value.int tk, Value.int st, Value.int vl])), (tx, Sum.inl (tc, 400, Sum.inl ft))] H := hP
        have hD : va_D A [(h0, Sum.inr (2, [Value.int fk, Value.int fp, Value.ref va, Value.ref tx, Value.int (nI nn), Value.int (nI (nx + 1)), Value.int tk, Value.int st, Value.int vl])), (tx, Sum.inl (tc, 400, Sum.inl ft))] := hD
        refine lv_goto (tgt := 5) hx hb dX2_takeWord_40 (by decide) ?_
        exact ih (nx + 1) (by omega) (by omega) ((run_go (by omega) (cLt_t hc_6)).symm.trans hrun) (by omega) H locs (hP.sub [0, 1] rfl) (hD.sub [0, 1] (by decide) rfl) hS ls (lv_sub hl [0] rfl)
set_option maxHeartbeats 4000000 in
set_option maxRecDepth 100000 in
theorem p_takeWord (l : Launch) (D : va_G) (h0 : Nat) (va : Nat) (tx : Nat) (nn : Nat) (nx : Nat) (fk : Int32) (fp : Int32) (tk : Int32) (st : Int32) (vl : Int32) (tc : ClassId) (ft : Nat → Int32) (hnxn : nx ≤ nn) (hn4 : nn ≤ 400) : cV l yX2_takeWord (.code yX2_takeWord cX2_takeWord 1 none) ({ frames := 1, cells := 0, slots := 0, locals := 21 }) D [(tc, .int)] [(h0, Sum.inr (2, [Value.int fk, Value.int fp, Value.ref va, Value.ref tx, Value.int (nI nn), Value.int (nI nx), Value.int tk, Value.int st, Value.int vl])), (tx, Sum.inl (tc, 400, Sum.inl ft))] xT [Value.ref h0] (S := Unit) (fun _ => True) (fun _ => []) (fun _ => [(h0, Sum.inr (2, [Value.int fk, Value.int fp, Value.ref va, Value.ref tx, Value.int (nI nn), Value.int (nI (run (cLt ft) nn nx)), Value.int 1, Value.int st, Value.int vl])), (tx, Sum.inl (tc, 400, Sum.inl ft))]) := by
  intro sz
  refine Met.ofW (cc := cX2_takeWord) (maxL := 1) (ret := none) (by decide) rfl ?_
  intro p e s m args below meth c s₁ B hml hv
  obtain ⟨rfl, hsz, hP, hK, hD0, hX⟩ := hv
  have hx := B.exec
  have hb := B.bytes
  have hr := B.returns
  have hts0 := atoms_spec (ws := .code yX2_takeWord cX2_takeWord 1 none :: gw) B.pre
  have hts := fun (w : Cond) (h : w ∈ gw) => hts0 w (List.mem_cons_of_mem _ h)
  have hown : s.vm.findClass RX2 = some m.cls := findClass_of_methodNamed B.named
  have hlocks := B.notSynchronized
  have F : mFix p s m _ c cX2_takeWord 1 RX2 := ⟨hx, hb, hml, hown, hts⟩
  subst hsz
  have hD := hD0.self (sz := s.heap.size)
  generalize hAe : va_A [(h0, Sum.inr (2, [Value.int fk, Value.int fp, Value.ref va, Value.ref tx, Value.int (nI nn), Value.int (nI nx), Value.int tk, Value.int st, Value.int vl])), (tx, Sum.inl (tc, 400, Sum.inl ft))] s.heap.size = A at hD hX ⊢
  have hA : ∀ q : Nat, s.heap.size ≤ q → A q := fun q h => by rw [← hAe]; exact Or.inr h
  have hS : va_S A s.heap s.heap [] := va_S.rf
  have hl := lv_entry ([Value.ref h0]) (n := 1) (Nat.le_of_ble_eq_true rfl)
  rw [lg_entry_eq]
  generalize (lg_sl ([Value.ref h0]) ++ List.replicate (1 - (lg_sl ([Value.ref h0])).length) Slot.unset).toArray = ls at hl ⊢
  have hl : lv_has ls 1 [(0, Value.ref h0)] := hl
  have hP : va_P D vwCl [(h0, Sum.inr (2, [Value.int fk, Value.int fp, Value.ref va, Value.ref tx, Value.int (nI nn), Value.int (nI nx), Value.int tk, Value.int st, Value.int vl])), (tx, Sum.inl (tc, 400, Sum.inl ft))] s.heap := hP
  refine lv_aload_n hx hb dX2_takeWord_0 rfl (lv_at hl 0 rfl) ?_
  refine lv_iconst (v := 1) hx hb dX2_takeWord_1 (by decide) ?_
  refine va_put (D := D) (ci := 2) (v := Value.int 1) (ty := .int) (C := RX2) (T := TX2) (N := 9) hx hb hts inG_X2 tyX2 tyX2_ok nmX2 hown hK hP hD hS 0 rfl rfl 6 (by decide) (hts _ kw_1_62) (fun _ h9 => h9) rfl (by decide +kernel) rfl rfl (Nat.le_of_ble_eq_true rfl) dX2_takeWord_2 (fun H locs hP hD hS => ?_)
  have hP : va_P D vwCl [(h0, Sum.inr (2, [Value.int fk, Value.int fp, Value.ref va, Value.ref tx, Value.int (nI nn), Value.int (nI nx), Value.int 1, Value.int st, Value.int vl])), (tx, Sum.inl (tc, 400, Sum.inl ft))] H := hP
  have hD : va_D A [(h0, Sum.inr (2, [Value.int fk, Value.int fp, Value.ref va, Value.ref tx, Value.int (nI nn), Value.int (nI nx), Value.int 1, Value.int st, Value.int vl])), (tx, Sum.inl (tc, 400, Sum.inl ft))] := hD
  refine lp_p_takeWord F hA h0 va tx nn fk fp 1 st vl tc ft (run (cLt ft) nn nx) (hK.sub [0] rfl) (fun   H locs hP hD hS ls hl => ?_) _ nx (by omega) (by omega) rfl (Nat.lt_succ_self _) _ _ (hP.sub [0, 1] rfl) (hD.sub [0, 1] (by decide) rfl) hS ls (lv_sub hl [0] rfl)
  have hP9 := hP.sub (ws' := [(h0, Sum.inr (2, [Value.int fk, Value.int fp, Value.ref va, Value.ref tx, Value.int (nI nn), Value.int (nI (run (cLt ft) nn nx)), Value.int 1, Value.int st, Value.int vl])), (tx, Sum.inl (tc, 400, Sum.inl ft))]) [0, 1] rfl
  have hD9 := hD.sub (ws' := [(h0, Sum.inr (2, [Value.int fk, Value.int fp, Value.ref va, Value.ref tx, Value.int (nI nn), Value.int (nI (run (cLt ft) nn nx)), Value.int 1, Value.int st, Value.int vl])), (tx, Sum.inl (tc, 400, Sum.inl ft))]) [0, 1] (by decide) rfl
  have hK9 := hK.sub (tys' := []) [] rfl
  refine W.widen (k := 0) (n := 0) (by decide) (by decide) ?_
  exact W.vret hx hb hr (fun t ht hW => ⟨⟨(), rfl, trivial, by rw [ht]; exact hP9, va_K.moved hW.alike hK9, hD9⟩, hS.F ht⟩) hS.2.2 dX2_takeWord_43
set_option maxHeartbeats 4000000 in
set_option maxRecDepth 100000 in
theorem lp_p_takeNumber {p : Program} {l : Launch} {e : Env} {s : State} {m : MethodId} {args : Array Value} {below : List Frame} {meth : Method} {c : Code} {Q : State → Prop} {A : Nat → Prop} {D : va_G} (F : mFix p s m args c cX2_takeNumber 1 RX2) (hA : ∀ q, s.heap.size ≤ q → A q) (h0 : Nat) (va : Nat) (tx : Nat) (nn : Nat) (fk : Int32) (fp : Int32) (tk : Int32) (st : Int32) (tc : ClassId) (ft : Nat → Int32) (E : Nat) (V : Nat) (hK : va_K D vwCl [(tc, .int)] s)
    (kx_77 : ∀ (H : Heap) (locs : List Loc), va_P D vwCl [(h0, Sum.inr (2, [Value.int fk, Value.int fp, Value.ref va, Value.ref tx, Value.int (nI nn), Value.int (nI E), Value.int tk, Value.int st, Value.int (nI V)])), (tx, Sum.inl (tc, 400, Sum.inl ft))] H → va_D A [(h0, Sum.inr (2, [Value.int fk, Value.int fp, Value.ref va, Value.ref tx, Value.int (nI nn), Value.int (nI E), Value.int tk, Value.int st, Value.int (nI V)])), (tx, Sum.inl (tc, 400, Sum.inl ft))] → va_S A s.heap H locs → ∀ ls : Array Slot, lv_has ls 1 [] → W p l e ({ frames := 1, cells := 0, slots := 0, locals := 60 }) s m args below meth c H locs 0 0 Q (F0 m 77 ls [])) :
    ∀ n : Nat, ∀ (nx : Nat) (vq : Nat), (nx ≤ nn) → (nn ≤ 400) → (vq ≤ 1000) → (run (cDg ft) nn nx = E) → (sat ft (E - nx) nx vq = V) → (nn - nx) < n → ∀ (H : Heap) (locs : List Loc), va_P D vwCl [(h0, Sum.inr (2, [Value.int fk, Value.int fp, Value.ref va, Value.ref tx, Value.int (nI nn), Value.int (nI nx), Value.int tk, Value.int st, Value.int (nI vq)])), (tx, Sum.inl (tc, 400, Sum.inl ft))] H → va_D A [(h0, Sum.inr (2, [Value.int fk, Value.int fp, Value.ref va, Value.ref tx, Value.int (nI nn), Value.int (nI nx), Value.int tk, Value.int st, Value.int (nI vq)])), (tx, Sum.inl (tc, 400, Sum.inl ft))] → va_S A s.heap H locs → ∀ ls : Array Slot, lv_has ls 1 [(0, Value.ref h0)] → W p l e ({ frames := 1, cells := 0, slots := 0, locals := 60 }) s m args below meth c H locs 0 0 Q (F0 m 10 ls []) := by
  intro n
  induction n with
  | zero => intro nx vq hnxn hn4 hvq hrun hsat hn; exact absurd hn (Nat.not_lt_zero _)
  | succ n ih =>
    intro nx vq hnxn hn4 hvq hrun hsat hn H locs hP hD hS ls hl
    obtain ⟨hx, hb, hml, hown, hts⟩ := id F
    refine lv_aload_n hx hb dX2_takeNumber_10 rfl (lv_at hl 0 rfl) ?_
    refine va_get (D := D) (ci := 2) (v := Value.int (nI nx)) (C := RX2) (T := TX2) (N := 9) hx hb hts inG_X2 hown hK hP 0 rfl rfl 5 (by decide) (hts _ kw_1_61) (fun _ h9 => h9) rfl dX2_takeNumber_11 ?_
    refine lv_aload_n hx hb dX2_takeNumber_14 rfl (lv_at hl 0 rfl) ?_
    refine va_get (D := D) (ci := 2) (v := Value.int (nI nn)) (C := RX2) (T := TX2) (N := 9) hx hb hts inG_X2 hown hK hP 0 rfl rfl 4 (by decide) (hts _ kw_1_60) (fun _ h9 => h9) rfl dX2_takeNumber_15 ?_
    refine lv_icmp_ge (tgt := 77) hx hb dX2_takeNumber_18 (by decide) (fun c_1 => ?_) (fun c_1 => ?_)
    · skip
      have c_1n : nn ≤ nx := (nI_leI (by omega) (by omega)).mp c_1
      have c_1 := Int32.not_lt.mpr c_1
      obtain rfl : E = nx := hrun.symm.trans (run_st (Or.inl c_1n))
      obtain rfl : V = vq := hsat.symm.trans (sat_st (Nat.le_refl _))
      exact kx_77   H locs (hP.sub [0, 1] rfl) (hD.sub [0, 1] (by decide) rfl) hS ls (lv_sub hl [] rfl)
    · skip
      have c_1n : nx < nn := nb_le (by omega) (by omega) c_1
      have c_1 := Int32.not_le.mp c_1
      refine lv_aload_n hx hb dX2_takeNumber_21 rfl (lv_at hl 0 rfl) ?_
      refine lv_aload_n hx hb dX2_takeNumber_22 rfl (lv_at hl 0 rfl) ?_
      refine va_get (D := D) (ci := 2) (v := Value.int (nI nx)) (C := RX2) (T := TX2) (N := 9) hx hb hts inG_X2 hown hK hP 0 rfl rfl 5 (by decide) (hts _ kw_1_61) (fun _ h9 => h9) rfl dX2_takeNumber_23 ?_
      refine mc_Vi (rest := []) (wr := []) F hK hP hD hS hA (p_signAt l D h0 va tx nn nx fk fp tk st (nI vq) tc ft nx (by omega) (by omega)) ⟨gk_X2_107.1, gk_X2_107.2, Nat.le_of_ble_eq_true rfl, Nat.le_of_ble_eq_true rfl⟩ [0, 1] [] [0] ⟨rfl, rfl, rfl, rfl, by decide⟩ rfl xT_move (fun _ _ _ => trivial) 0 rfl rfl rfl hl.1 rfl (Nat.le_of_ble_eq_true rfl) dX2_takeNumber_26 ⟨Nat.le_of_ble_eq_true rfl, Nat.le_of_ble_eq_true rfl⟩ (fun r_2 _ H locs hw hK1 hP hD hS => ?_)
      have hP : va_P D vwCl [(h0, Sum.inr (2, [Value.int fk, Value.int fp, Value.ref va, Value.ref tx, Value.int (nI nn), Value.int (nI nx), Value.int tk, Value.int st, Value.int (nI vq)])), (tx, Sum.inl (tc, 400, Sum.inl ft))] H := hP
      have hD : va_D A [(h0, Sum.inr (2, [Value.int fk, Value.int fp, Value.ref va, Value.ref tx, Value.int (nI nn), Value.int (nI nx), Value.int tk, Value.int st, Value.int (nI vq)])), (tx, Sum.inl (tc, 400, Sum.inl ft))] := hD
      have hw_3 : r_2 = ft nx := hw
      obtain rfl : r_2 = ft nx := hw_3
      refine mc_Si (rest := []) (wr := [(h0, Sum.inr (2, [Value.int fk, Value.int fp, Value.ref va, Value.ref tx, Value.int (nI nn), Value.int (nI nx), Value.int tk, Value.int st, Value.int (nI vq)])), (tx, Sum.inl (tc, 400, Sum.inl ft))]) F hK hP hD hS hA (p_isDigit l D (ft nx) ) ⟨gk_X2_125.1, gk_X2_125.2, Nat.le_of_ble_eq_true rfl, Nat.le_of_ble_eq_true rfl⟩ [] [0, 1] [] ⟨rfl, rfl, rfl, rfl, by decide⟩ rfl xT_move (fun _ _ _ => trivial) rfl hl.1 rfl (Nat.le_of_ble_eq_true rfl) dX2_takeNumber_29 ⟨Nat.le_of_ble_eq_true rfl, Nat.le_of_ble_eq_true rfl⟩ (fun r_4 _ H locs hw hK1 hP hD hS => ?_)
      have hP : va_P D vwCl [(h0, Sum.inr (2, [Value.int fk, Value.int fp, Value.ref va, Value.ref tx, Value.int (nI nn), Value.int (nI nx), Value.int tk, Value.int st, Value.int (nI vq)])), (tx, Sum.inl (tc, 400, Sum.inl ft))] H := hP
      have hD : va_D A [(h0, Sum.inr (2, [Value.int fk, Value.int fp, Value.ref va, Value.ref tx, Value.int (nI nn), Value.int (nI nx), Value.int tk, Value.int st, Value.int (nI vq)])), (tx, Sum.inl (tc, 400, Sum.inl ft))] := hD
      have hw_5 : r_4 = (if (ft nx) < 48 ∨ 57 < (ft nx) then 0 else 1) := hw
      by_cases hc_6 : (ft nx) < 48 ∨ 57 < (ft nx)
      · skip
        obtain rfl : r_4 = 0 := by rw [hw_5, if_pos hc_6]
        obtain rfl : E = nx := hrun.symm.trans (run_st (Or.inr (cDg_f hc_6)))
        have hl : lv_has ls 1 [(0, Value.ref h0)] := hl
        obtain rfl : V = vq := hsat.symm.trans (sat_st (Nat.le_refl _))
        refine lv_if_eq (tgt := 77) hx hb dX2_takeNumber_32 (by decide) (fun c_7 => ?_) (fun c_7 => absurd c_7 (by decide))
        exact kx_77   H locs (hP.sub [0, 1] rfl) (hD.sub [0, 1] (by decide) rfl) hS ls (lv_sub hl [] rfl)
      · skip
        obtain rfl : r_4 = 1 := by rw [hw_5, if_neg hc_6]
        refine lv_if_eq (tgt := 77) hx hb dX2_takeNumber_32 (by decide) (fun c_8 => absurd c_8 (by decide)) (fun c_8 => ?_)
        refine lv_aload_n hx hb dX2_takeNumber_35 rfl (lv_at hl 0 rfl) ?_
        refine lv_sipush (v := 1000) hx hb dX2_takeNumber_36 (by decide) ?_
        refine lv_aload_n hx hb dX2_takeNumber_39 rfl (lv_at hl 0 rfl) ?_
        refine va_get (D := D) (ci := 2) (v := Value.int (nI vq)) (C := RX2) (T := TX2) (N := 9) hx hb hts inG_X2 hown hK hP 0 rfl rfl 8 (by decide) (hts _ kw_1_64) (fun _ h9 => h9) rfl dX2_takeNumber_40 ?_
        refine lv_bipush (v := 10) hx hb dX2_takeNumber_43 (by decide) ?_
        refine lv_imul hx hb dX2_takeNumber_45 ?_
        refine lv_topi (fun z_9 ez_9 => ?_)
        obtain rfl : z_9 = nI (vq * 10) := ez_9.trans (pk_mul vq 10)
        refine lv_aload_n hx hb dX2_takeNumber_46 rfl (lv_at hl 0 rfl) ?_
        refine lv_aload_n hx hb dX2_takeNumber_47 rfl (lv_at hl 0 rfl) ?_
        refine va_get (D := D) (ci := 2) (v := Value.int (nI nx)) (C := RX2) (T := TX2) (N := 9) hx hb hts inG_X2 hown hK hP 0 rfl rfl 5 (by decide) (hts _ kw_1_61) (fun _ h9 => h9) rfl dX2_takeNumber_48 ?_
        refine mc_Vi (rest := [Value.int (nI (vq * 10)), Value.int 1000, Value.ref h0]) (wr := []) F hK hP hD hS hA (p_signAt l D h0 va tx nn nx fk fp tk st (nI vq) tc ft nx (by omega) (by omega)) ⟨gk_X2_107.1, gk_X2_107.2, Nat.le_of_ble_eq_true rfl, Nat.le_of_ble_eq_true rfl⟩ [0, 1] [] [0] ⟨rfl, rfl, rfl, rfl, by decide⟩ rfl xT_move (fun _ _ _ => trivial) 0 rfl rfl rfl hl.1 rfl (Nat.le_of_ble_eq_true rfl) dX2_takeNumber_51 ⟨Nat.le_of_ble_eq_true rfl, Nat.le_of_ble_eq_true rfl⟩ (fun r_10 _ H locs hw hK1 hP hD hS => ?_)
        have hP : va_P D vwCl [(h0, Sum.inr (2, [Value.int fk, Value.int fp, Value.ref va, Value.ref tx, Value.int (nI nn), Value.int (nI nx), Value.int tk, Value.int st, Value.int (nI vq)])), (tx, Sum.inl (tc, 400, Sum.inl ft))] H := hP
        have hD : va_D A [(h0, Sum.inr (2, [Value.int fk, Value.int fp, Value.ref va, Value.ref tx, Value.int (nI nn), Value.int (nI nx), Value.int tk, Value.int st, Value.int (nI vq)])), (tx, Sum.inl (tc, 400, Sum.inl ft))] := hD
        have hw_11 : r_10 = ft nx := hw
        obtain rfl : r_10 = ft nx := hw_11
        obtain ⟨dq, h48, h57, Edq⟩ := dig_nat (v := ft nx) (fun q => hc_6 (Or.inl q)) (fun q => hc_6 (Or.inr q))
        rw [Edq]
        refine lv_iadd hx hb dX2_takeNumber_54 ?_
        refine lv_topi (fun z_12 ez_12 => ?_)
        obtain rfl : z_12 = nI (vq * 10 + dq) := ez_12.trans (nI_add (vq * 10) dq)
        refine lv_bipush (v := 48) hx hb dX2_takeNumber_55 (by decide) ?_
        refine lv_isub hx hb dX2_takeNumber_57 ?_
        refine lv_topi (fun z_13 ez_13 => ?_)
        obtain rfl : z_13 = nI (vq * 10 + dq - 48) := ez_13.trans (nI_subN (a := 48) (b := vq * 10 + dq) (by omega))
        refine va_mmin hx hb (by rw [hml]; exact hl.1.symm) hown (hts _ kw_2_128) (hts _ kw_2_129) (hts _ kw_1_12) (hts _ kw_2_130) (Nat.le_of_ble_eq_true rfl) (Nat.le_of_ble_eq_true rfl) (Nat.le_of_ble_eq_true rfl) (Nat.le_of_ble_eq_true rfl) dX2_takeNumber_58 ?_
        refine lv_topi (fun z_14 ez_14 => ?_)
        obtain rfl : z_14 = nI (min 1000 (vq * 10 + dq - 48)) := ez_14.trans (min_nI (by omega))
        refine va_put (D := D) (ci := 2) (v := Value.int (nI (min 1000 (vq * 10 + dq - 48)))) (ty := .int) (C := RX2) (T := TX2) (N := 9) hx hb hts inG_X2 tyX2 tyX2_ok nmX2 hown hK hP hD hS 0 rfl rfl 8 (by decide) (hts _ kw_1_64) (fun _ h9 => h9) rfl (by decide +kernel) rfl rfl (Nat.le_of_ble_eq_true rfl) dX2_takeNumber_61 (fun H locs hP hD hS => ?_)
        have hP : va_P D vwCl [(h0, Sum.inr (2, [Value.int fk, Value.int fp, Value.ref va, Value.ref tx, Value.int (nI nn), Value.int (nI nx), Value.int tk, Value.int st, Value.int (nI (min 1000 (vq * 10 + dq - 48)))])), (tx, Sum.inl (tc, 400, Sum.inl ft))] H := hP
        have hD : va_D A [(h0, Sum.inr (2, [Value.int fk, Value.int fp, Value.ref va, Value.ref tx, Value.int (nI nn), Value.int (nI nx), Value.int tk, Value.int st, Value.int (nI (min 1000 (vq * 10 + dq - 48)))])), (tx, Sum.inl (tc, 400, Sum.inl ft))] := hD
        refine lv_aload_n hx hb dX2_takeNumber_64 rfl (lv_at hl 0 rfl) ?_
        refine lv_dup hx hb dX2_takeNumber_65 rfl ?_
        refine va_get (D := D) (ci := 2) (v := Value.int (nI nx)) (C := RX2) (T := TX2) (N := 9) hx hb hts inG_X2 hown hK hP 0 rfl rfl 5 (by decide) (hts _ kw_1_61) (fun _ h9 => h9) rfl dX2_takeNumber_66 ?_
        refine lv_iconst (v := 1) hx hb dX2_takeNumber_69 (by decide) ?_
        refine lv_iadd hx hb dX2_takeNumber_70 ?_
        refine lv_topi (fun z_15 ez_15 => ?_)
        obtain rfl : z_15 = nI (nx + 1) := ez_15.trans (nI_add nx 1)
        refine va_put (D := D) (ci := 2) (v := Value.int (nI (nx + 1))) (ty := .int) (C := RX2) (T := TX2) (N := 9) hx hb hts inG_X2 tyX2 tyX2_ok nmX2 hown hK hP hD hS 0 rfl rfl 5 (by decide) (hts _ kw_1_61) (fun _ h9 => h9) rfl (by decide +kernel) rfl rfl (Nat.le_of_ble_eq_true rfl) dX2_takeNumber_71 (fun H locs hP hD hS => ?_)
        have hP : va_P D vwCl [(h0, Sum.inr (2, [Value.int fk, Value.int fp, Value.ref va, Value.ref tx, Value.int (nI nn), Value.int (nI (nx + 1)), Value.int tk, Value.int st, Value.int (nI (min 1000 (vq * 10 + dq - 48)))])), (tx, Sum.inl (tc, 400, Sum.inl ft))] H := hP
        have hD : va_D A [(h0, Sum.inr (2, [Value.int fk, Value.int fp, Value.ref va, Value.ref tx, Value.int (nI nn), Value.int (nI (nx + 1)), Value.int tk, Value.int st, Value.int (nI (min 1000 (vq * 10 + dq - 48)))])), (tx, Sum.inl (tc, 400, Sum.inl ft))] := hD
        refine lv_goto (tgt := 10) hx hb dX2_takeNumber_74 (by decide) ?_
        exact ih (nx + 1) (min 1000 (vq * 10 + dq - 48)) (by omega) (by omega) (by omega) ((run_go (by omega) (cDg_t hc_6)).symm.trans hrun) (by rw [← hsat, sat_go (E := E) (i := nx) (by have := run_lt (p := cDg ft) (n := nn) (i := nx) (by omega) (cDg_t hc_6); omega), Edq, dgt_nI (by omega), show vq * 10 + dq - 48 = vq * 10 + (dq - 48) by omega]) (by omega) H locs (hP.sub [0, 1] rfl) (hD.sub [0, 1] (by decide) rfl) hS ls (lv_sub hl [0] rfl)
set_option maxHeartbeats 4000000 in
set_option maxRecDepth 100000 in
theorem p_takeNumber (l : Launch) (D : va_G) (h0 : Nat) (va : Nat) (tx : Nat) (nn : Nat) (nx : Nat) (fk : Int32) (fp : Int32) (tk : Int32) (st : Int32) (vl : Int32) (tc : ClassId) (ft : Nat → Int32) (hnxn : nx ≤ nn) (hn4 : nn ≤ 400) : cV l yX2_takeNumber (.code yX2_takeNumber cX2_takeNumber 1 none) ({ frames := 1, cells := 0, slots := 0, locals := 60 }) D [(tc, .int)] [(h0, Sum.inr (2, [Value.int fk, Value.int fp, Value.ref va, Value.ref tx, Value.int (nI nn), Value.int (nI nx), Value.int tk, Value.int st, Value.int vl])), (tx, Sum.inl (tc, 400, Sum.inl ft))] xT [Value.ref h0] (S := Unit) (fun _ => True) (fun _ => []) (fun _ => [(h0, Sum.inr (2, [Value.int fk, Value.int fp, Value.ref va, Value.ref tx, Value.int (nI nn), Value.int (nI (run (cDg ft) nn nx)), Value.int 2, Value.int st, Value.int (nI (tV ft nn nx))])), (tx, Sum.inl (tc, 400, Sum.inl ft))]) := by
  intro sz
  refine Met.ofW (cc := cX2_takeNumber) (maxL := 1) (ret := none) (by decide) rfl ?_
  intro p e s m args below meth c s₁ B hml hv
  obtain ⟨rfl, hsz, hP, hK, hD0, hX⟩ := hv
  have hx := B.exec
  have hb := B.bytes
  have hr := B.returns
  have hts0 := atoms_spec (ws := .code yX2_takeNumber cX2_takeNumber 1 none :: gw) B.pre
  have hts := fun (w : Cond) (h : w ∈ gw) => hts0 w (List.mem_cons_of_mem _ h)
  have hown : s.vm.findClass RX2 = some m.cls := findClass_of_methodNamed B.named
  have hlocks := B.notSynchronized
  have F : mFix p s m _ c cX2_takeNumber 1 RX2 := ⟨hx, hb, hml, hown, hts⟩
  subst hsz
  have hD := hD0.self (sz := s.heap.size)
  generalize hAe : va_A [(h0, Sum.inr (2, [Value.int fk, Value.int fp, Value.ref va, Value.ref tx, Value.int (nI nn), Value.int (nI nx), Value.int tk, Value.int st, Value.int vl])), (tx, Sum.inl (tc, 400, Sum.inl ft))] s.heap.size = A at hD hX ⊢
  have hA : ∀ q : Nat, s.heap.size ≤ q → A q := fun q h => by rw [← hAe]; exact Or.inr h
  have hS : va_S A s.heap s.heap [] := va_S.rf
  have hl := lv_entry ([Value.ref h0]) (n := 1) (Nat.le_of_ble_eq_true rfl)
  rw [lg_entry_eq]
  generalize (lg_sl ([Value.ref h0]) ++ List.replicate (1 - (lg_sl ([Value.ref h0])).length) Slot.unset).toArray = ls at hl ⊢
  have hl : lv_has ls 1 [(0, Value.ref h0)] := hl
  have hP : va_P D vwCl [(h0, Sum.inr (2, [Value.int fk, Value.int fp, Value.ref va, Value.ref tx, Value.int (nI nn), Value.int (nI nx), Value.int tk, Value.int st, Value.int vl])), (tx, Sum.inl (tc, 400, Sum.inl ft))] s.heap := hP
  refine lv_aload_n hx hb dX2_takeNumber_0 rfl (lv_at hl 0 rfl) ?_
  refine lv_iconst (v := 2) hx hb dX2_takeNumber_1 (by decide) ?_
  refine va_put (D := D) (ci := 2) (v := Value.int 2) (ty := .int) (C := RX2) (T := TX2) (N := 9) hx hb hts inG_X2 tyX2 tyX2_ok nmX2 hown hK hP hD hS 0 rfl rfl 6 (by decide) (hts _ kw_1_62) (fun _ h9 => h9) rfl (by decide +kernel) rfl rfl (Nat.le_of_ble_eq_true rfl) dX2_takeNumber_2 (fun H locs hP hD hS => ?_)
  have hP : va_P D vwCl [(h0, Sum.inr (2, [Value.int fk, Value.int fp, Value.ref va, Value.ref tx, Value.int (nI nn), Value.int (nI nx), Value.int 2, Value.int st, Value.int vl])), (tx, Sum.inl (tc, 400, Sum.inl ft))] H := hP
  have hD : va_D A [(h0, Sum.inr (2, [Value.int fk, Value.int fp, Value.ref va, Value.ref tx, Value.int (nI nn), Value.int (nI nx), Value.int 2, Value.int st, Value.int vl])), (tx, Sum.inl (tc, 400, Sum.inl ft))] := hD
  refine lv_aload_n hx hb dX2_takeNumber_5 rfl (lv_at hl 0 rfl) ?_
  refine lv_iconst (v := 0) hx hb dX2_takeNumber_6 (by decide) ?_
  refine va_put (D := D) (ci := 2) (v := Value.int 0) (ty := .int) (C := RX2) (T := TX2) (N := 9) hx hb hts inG_X2 tyX2 tyX2_ok nmX2 hown hK hP hD hS 0 rfl rfl 8 (by decide) (hts _ kw_1_64) (fun _ h9 => h9) rfl (by decide +kernel) rfl rfl (Nat.le_of_ble_eq_true rfl) dX2_takeNumber_7 (fun H locs hP hD hS => ?_)
  have hP : va_P D vwCl [(h0, Sum.inr (2, [Value.int fk, Value.int fp, Value.ref va, Value.ref tx, Value.int (nI nn), Value.int (nI nx), Value.int 2, Value.int st, Value.int 0])), (tx, Sum.inl (tc, 400, Sum.inl ft))] H := hP
  have hD : va_D A [(h0, Sum.inr (2, [Value.int fk, Value.int fp, Value.ref va, Value.ref tx, Value.int (nI nn), Value.int (nI nx), Value.int 2, Value.int st, Value.int 0])), (tx, Sum.inl (tc, 400, Sum.inl ft))] := hD
  refine lp_p_takeNumber F hA h0 va tx nn fk fp 2 st tc ft (run (cDg ft) nn nx) (tV ft nn nx) (hK.sub [0] rfl) (fun   H locs hP hD hS ls hl => ?_) _ nx 0 (by omega) (by omega) (by omega) rfl rfl (Nat.lt_succ_self _) _ _ (hP.sub [0, 1] rfl) (hD.sub [0, 1] (by decide) rfl) hS ls (lv_sub hl [0] rfl)
  have hP9 := hP.sub (ws' := [(h0, Sum.inr (2, [Value.int fk, Value.int fp, Value.ref va, Value.ref tx, Value.int (nI nn), Value.int (nI (run (cDg ft) nn nx)), Value.int 2, Value.int st, Value.int (nI (tV ft nn nx))])), (tx, Sum.inl (tc, 400, Sum.inl ft))]) [0, 1] rfl
  have hD9 := hD.sub (ws' := [(h0, Sum.inr (2, [Value.int fk, Value.int fp, Value.ref va, Value.ref tx, Value.int (nI nn), Value.int (nI (run (cDg ft) nn nx)), Value.int 2, Value.int st, Value.int (nI (tV ft nn nx))])), (tx, Sum.inl (tc, 400, Sum.inl ft))]) [0, 1] (by decide) rfl
  have hK9 := hK.sub (tys' := []) [] rfl
  refine W.widen (k := 0) (n := 0) (by decide) (by decide) ?_
  exact W.vret hx hb hr (fun t ht hW => ⟨⟨(), rfl, trivial, by rw [ht]; exact hP9, va_K.moved hW.alike hK9, hD9⟩, hS.F ht⟩) hS.2.2 dX2_takeNumber_77
set_option maxHeartbeats 4000000 in
set_option maxRecDepth 100000 in
theorem lp_p_takeToken {p : Program} {l : Launch} {e : Env} {s : State} {m : MethodId} {args : Array Value} {below : List Frame} {meth : Method} {c : Code} {Q : State → Prop} {A : Nat → Prop} {D : va_G} (F : mFix p s m args c cX2_takeToken 1 RX2) (hA : ∀ q, s.heap.size ≤ q → A q) (h0 : Nat) (va : Nat) (tx : Nat) (nn : Nat) (fk : Int32) (fp : Int32) (tk : Int32) (st : Int32) (vl : Int32) (tc : ClassId) (ft : Nat → Int32) (E : Nat) (hK : va_K D vwCl [(tc, .int)] s)
    (kx_38 : ∀ (H : Heap) (locs : List Loc), va_P D vwCl [(h0, Sum.inr (2, [Value.int fk, Value.int fp, Value.ref va, Value.ref tx, Value.int (nI nn), Value.int (nI E), Value.int tk, Value.int st, Value.int vl])), (tx, Sum.inl (tc, 400, Sum.inl ft))] H → va_D A [(h0, Sum.inr (2, [Value.int fk, Value.int fp, Value.ref va, Value.ref tx, Value.int (nI nn), Value.int (nI E), Value.int tk, Value.int st, Value.int vl])), (tx, Sum.inl (tc, 400, Sum.inl ft))] → va_S A s.heap H locs → ∀ ls : Array Slot, lv_has ls 1 [(0, Value.ref h0)] → W p l e ({ frames := 2, cells := 0, slots := 0, locals := 80 }) s m args below meth c H locs 0 0 Q (F0 m 38 ls [])) :
    ∀ n : Nat, ∀ (nx : Nat), (nx ≤ nn) → (nn ≤ 400) → (run (cBl ft) nn nx = E) → (nn - nx) < n → ∀ (H : Heap) (locs : List Loc), va_P D vwCl [(h0, Sum.inr (2, [Value.int fk, Value.int fp, Value.ref va, Value.ref tx, Value.int (nI nn), Value.int (nI nx), Value.int tk, Value.int st, Value.int vl])), (tx, Sum.inl (tc, 400, Sum.inl ft))] H → va_D A [(h0, Sum.inr (2, [Value.int fk, Value.int fp, Value.ref va, Value.ref tx, Value.int (nI nn), Value.int (nI nx), Value.int tk, Value.int st, Value.int vl])), (tx, Sum.inl (tc, 400, Sum.inl ft))] → va_S A s.heap H locs → ∀ ls : Array Slot, lv_has ls 1 [(0, Value.ref h0)] → W p l e ({ frames := 2, cells := 0, slots := 0, locals := 80 }) s m args below meth c H locs 0 0 Q (F0 m 0 ls []) := by
  intro n
  induction n with
  | zero => intro nx hnxn hn4 hrun hn; exact absurd hn (Nat.not_lt_zero _)
  | succ n ih =>
    intro nx hnxn hn4 hrun hn H locs hP hD hS ls hl
    obtain ⟨hx, hb, hml, hown, hts⟩ := id F
    refine lv_aload_n hx hb dX2_takeToken_0 rfl (lv_at hl 0 rfl) ?_
    refine va_get (D := D) (ci := 2) (v := Value.int (nI nx)) (C := RX2) (T := TX2) (N := 9) hx hb hts inG_X2 hown hK hP 0 rfl rfl 5 (by decide) (hts _ kw_1_61) (fun _ h9 => h9) rfl dX2_takeToken_1 ?_
    refine lv_aload_n hx hb dX2_takeToken_4 rfl (lv_at hl 0 rfl) ?_
    refine va_get (D := D) (ci := 2) (v := Value.int (nI nn)) (C := RX2) (T := TX2) (N := 9) hx hb hts inG_X2 hown hK hP 0 rfl rfl 4 (by decide) (hts _ kw_1_60) (fun _ h9 => h9) rfl dX2_takeToken_5 ?_
    refine lv_icmp_ge (tgt := 38) hx hb dX2_takeToken_8 (by decide) (fun c_1 => ?_) (fun c_1 => ?_)
    · skip
      have c_1n : nn ≤ nx := (nI_leI (by omega) (by omega)).mp c_1
      have c_1 := Int32.not_lt.mpr c_1
      obtain rfl : E = nx := hrun.symm.trans (run_st (Or.inl c_1n))
      exact kx_38   H locs (hP.sub [0, 1] rfl) (hD.sub [0, 1] (by decide) rfl) hS ls (lv_sub hl [0] rfl)
    · skip
      have c_1n : nx < nn := nb_le (by omega) (by omega) c_1
      have c_1 := Int32.not_le.mp c_1
      refine lv_aload_n hx hb dX2_takeToken_11 rfl (lv_at hl 0 rfl) ?_
      refine lv_aload_n hx hb dX2_takeToken_12 rfl (lv_at hl 0 rfl) ?_
      refine va_get (D := D) (ci := 2) (v := Value.int (nI nx)) (C := RX2) (T := TX2) (N := 9) hx hb hts inG_X2 hown hK hP 0 rfl rfl 5 (by decide) (hts _ kw_1_61) (fun _ h9 => h9) rfl dX2_takeToken_13 ?_
      refine mc_Vi (rest := []) (wr := []) F hK hP hD hS hA (p_signAt l D h0 va tx nn nx fk fp tk st vl tc ft nx (by omega) (by omega)) ⟨gk_X2_107.1, gk_X2_107.2, Nat.le_of_ble_eq_true rfl, Nat.le_of_ble_eq_true rfl⟩ [0, 1] [] [0] ⟨rfl, rfl, rfl, rfl, by decide⟩ rfl xT_move (fun _ _ _ => trivial) 0 rfl rfl rfl hl.1 rfl (Nat.le_of_ble_eq_true rfl) dX2_takeToken_16 ⟨Nat.le_of_ble_eq_true rfl, Nat.le_of_ble_eq_true rfl⟩ (fun r_2 _ H locs hw hK1 hP hD hS => ?_)
      have hP : va_P D vwCl [(h0, Sum.inr (2, [Value.int fk, Value.int fp, Value.ref va, Value.ref tx, Value.int (nI nn), Value.int (nI nx), Value.int tk, Value.int st, Value.int vl])), (tx, Sum.inl (tc, 400, Sum.inl ft))] H := hP
      have hD : va_D A [(h0, Sum.inr (2, [Value.int fk, Value.int fp, Value.ref va, Value.ref tx, Value.int (nI nn), Value.int (nI nx), Value.int tk, Value.int st, Value.int vl])), (tx, Sum.inl (tc, 400, Sum.inl ft))] := hD
      have hw_3 : r_2 = ft nx := hw
      obtain rfl : r_2 = ft nx := hw_3
      refine mc_Si (rest := []) (wr := [(h0, Sum.inr (2, [Value.int fk, Value.int fp, Value.ref va, Value.ref tx, Value.int (nI nn), Value.int (nI nx), Value.int tk, Value.int st, Value.int vl])), (tx, Sum.inl (tc, 400, Sum.inl ft))]) F hK hP hD hS hA (p_isBlank l D (ft nx) ) ⟨gk_X2_115.1, gk_X2_115.2, Nat.le_of_ble_eq_true rfl, Nat.le_of_ble_eq_true rfl⟩ [] [0, 1] [] ⟨rfl, rfl, rfl, rfl, by decide⟩ rfl xT_move (fun _ _ _ => trivial) rfl hl.1 rfl (Nat.le_of_ble_eq_true rfl) dX2_takeToken_19 ⟨Nat.le_of_ble_eq_true rfl, Nat.le_of_ble_eq_true rfl⟩ (fun r_4 _ H locs hw hK1 hP hD hS => ?_)
      have hP : va_P D vwCl [(h0, Sum.inr (2, [Value.int fk, Value.int fp, Value.ref va, Value.ref tx, Value.int (nI nn), Value.int (nI nx), Value.int tk, Value.int st, Value.int vl])), (tx, Sum.inl (tc, 400, Sum.inl ft))] H := hP
      have hD : va_D A [(h0, Sum.inr (2, [Value.int fk, Value.int fp, Value.ref va, Value.ref tx, Value.int (nI nn), Value.int (nI nx), Value.int tk, Value.int st, Value.int vl])), (tx, Sum.inl (tc, 400, Sum.inl ft))] := hD
      have hw_5 : r_4 = (if (ft nx) = 10 ∨ (ft nx) = 32 then 1 else 0) := hw
      by_cases hc_6 : (ft nx) = 10 ∨ (ft nx) = 32
      · skip
        obtain rfl : r_4 = 1 := by rw [hw_5, if_pos hc_6]
        refine lv_if_eq (tgt := 38) hx hb dX2_takeToken_22 (by decide) (fun c_7 => absurd c_7 (by decide)) (fun c_7 => ?_)
        refine lv_aload_n hx hb dX2_takeToken_25 rfl (lv_at hl 0 rfl) ?_
        refine lv_dup hx hb dX2_takeToken_26 rfl ?_
        refine va_get (D := D) (ci := 2) (v := Value.int (nI nx)) (C := RX2) (T := TX2) (N := 9) hx hb hts inG_X2 hown hK hP 0 rfl rfl 5 (by decide) (hts _ kw_1_61) (fun _ h9 => h9) rfl dX2_takeToken_27 ?_
        refine lv_iconst (v := 1) hx hb dX2_takeToken_30 (by decide) ?_
        refine lv_iadd hx hb dX2_takeToken_31 ?_
        refine lv_topi (fun z_8 ez_8 => ?_)
        obtain rfl : z_8 = nI (nx + 1) := ez_8.trans (nI_add nx 1)
        refine va_put (D := D) (ci := 2) (v := Value.int (nI (nx + 1))) (ty := .int) (C := RX2) (T := TX2) (N := 9) hx hb hts inG_X2 tyX2 tyX2_ok nmX2 hown hK hP hD hS 0 rfl rfl 5 (by decide) (hts _ kw_1_61) (fun _ h9 => h9) rfl (by decide +kernel) rfl rfl (Nat.le_of_ble_eq_true rfl) dX2_takeToken_32 (fun H locs hP hD hS => ?_)
        have hP : va_P D vwCl [(h0, Sum.inr (2, [Value.int fk, Value.int fp, Value.ref va, Value.ref tx, Value.int (nI nn), Value.int (nI (nx + 1)), Value.int tk, Value.int st, Value.int vl])), (tx, Sum.inl (tc, 400, Sum.inl ft))] H := hP
        have hD : va_D A [(h0, Sum.inr (2, [Value.int fk, Value.int fp, Value.ref va, Value.ref tx, Value.int (nI nn), Value.int (nI (nx + 1)), Value.int tk, Value.int st, Value.int vl])), (tx, Sum.inl (tc, 400, Sum.inl ft))] := hD
        refine lv_goto (tgt := 0) hx hb dX2_takeToken_35 (by decide) ?_
        exact ih (nx + 1) (by omega) (by omega) ((run_go (by omega) (cBl_t hc_6)).symm.trans hrun) (by omega) H locs (hP.sub [0, 1] rfl) (hD.sub [0, 1] (by decide) rfl) hS ls (lv_sub hl [0] rfl)
      · skip
        obtain rfl : r_4 = 0 := by rw [hw_5, if_neg hc_6]
        obtain rfl : E = nx := hrun.symm.trans (run_st (Or.inr (cBl_f hc_6)))
        have hl : lv_has ls 1 [(0, Value.ref h0)] := hl
        refine lv_if_eq (tgt := 38) hx hb dX2_takeToken_22 (by decide) (fun c_9 => ?_) (fun c_9 => absurd c_9 (by decide))
        exact kx_38   H locs (hP.sub [0, 1] rfl) (hD.sub [0, 1] (by decide) rfl) hS ls (lv_sub hl [0] rfl)
set_option maxHeartbeats 4000000 in
set_option maxRecDepth 100000 in
theorem p_takeToken (l : Launch) (D : va_G) (h0 : Nat) (va : Nat) (tx : Nat) (nn : Nat) (nx : Nat) (fk : Int32) (fp : Int32) (tk : Int32) (st : Int32) (vl : Int32) (tc : ClassId) (ft : Nat → Int32) (hnxn : nx ≤ nn) (hn4 : nn ≤ 400) : cV l yX2_takeToken (.code yX2_takeToken cX2_takeToken 1 none) ({ frames := 2, cells := 0, slots := 0, locals := 80 }) D [(tc, .int)] [(h0, Sum.inr (2, [Value.int fk, Value.int fp, Value.ref va, Value.ref tx, Value.int (nI nn), Value.int (nI nx), Value.int tk, Value.int st, Value.int vl])), (tx, Sum.inl (tc, 400, Sum.inl ft))] xT [Value.ref h0] (S := Nat × Nat × Nat × Int32) (fun u => match u with | (s1, nx1, tk1, vl1) => s1 = tS ft nn nx ∧ nx1 = tN ft nn s1 ∧ tk1 = tK ft nn s1 ∧ (tk1 = 2 → vl1 = nI (tV ft nn s1))) (fun u => match u with | (s1, nx1, tk1, vl1) => []) (fun u => match u with | (s1, nx1, tk1, vl1) => [(h0, Sum.inr (2, [Value.int fk, Value.int fp, Value.ref va, Value.ref tx, Value.int (nI nn), Value.int (nI nx1), Value.int (nI tk1), Value.int (nI s1), Value.int vl1])), (tx, Sum.inl (tc, 400, Sum.inl ft))]) := by
  intro sz
  refine Met.ofW (cc := cX2_takeToken) (maxL := 1) (ret := none) (by decide) rfl ?_
  intro p e s m args below meth c s₁ B hml hv
  obtain ⟨rfl, hsz, hP, hK, hD0, hX⟩ := hv
  have hx := B.exec
  have hb := B.bytes
  have hr := B.returns
  have hts0 := atoms_spec (ws := .code yX2_takeToken cX2_takeToken 1 none :: gw) B.pre
  have hts := fun (w : Cond) (h : w ∈ gw) => hts0 w (List.mem_cons_of_mem _ h)
  have hown : s.vm.findClass RX2 = some m.cls := findClass_of_methodNamed B.named
  have hlocks := B.notSynchronized
  have F : mFix p s m _ c cX2_takeToken 1 RX2 := ⟨hx, hb, hml, hown, hts⟩
  subst hsz
  have hD := hD0.self (sz := s.heap.size)
  generalize hAe : va_A [(h0, Sum.inr (2, [Value.int fk, Value.int fp, Value.ref va, Value.ref tx, Value.int (nI nn), Value.int (nI nx), Value.int tk, Value.int st, Value.int vl])), (tx, Sum.inl (tc, 400, Sum.inl ft))] s.heap.size = A at hD hX ⊢
  have hA : ∀ q : Nat, s.heap.size ≤ q → A q := fun q h => by rw [← hAe]; exact Or.inr h
  have hS : va_S A s.heap s.heap [] := va_S.rf
  have hl := lv_entry ([Value.ref h0]) (n := 1) (Nat.le_of_ble_eq_true rfl)
  rw [lg_entry_eq]
  generalize (lg_sl ([Value.ref h0]) ++ List.replicate (1 - (lg_sl ([Value.ref h0])).length) Slot.unset).toArray = ls at hl ⊢
  have hl : lv_has ls 1 [(0, Value.ref h0)] := hl
  have hP : va_P D vwCl [(h0, Sum.inr (2, [Value.int fk, Value.int fp, Value.ref va, Value.ref tx, Value.int (nI nn), Value.int (nI nx), Value.int tk, Value.int st, Value.int vl])), (tx, Sum.inl (tc, 400, Sum.inl ft))] s.heap := hP
  refine lp_p_takeToken F hA h0 va tx nn fk fp tk st vl tc ft (tS ft nn nx) (hK.sub [0] rfl) (fun   H locs hP hD hS ls hl => ?_) _ nx (by omega) (by omega) rfl (Nat.lt_succ_self _) _ _ (hP.sub [0, 1] rfl) (hD.sub [0, 1] (by decide) rfl) hS ls (lv_sub hl [0] rfl)
  have hs9 := tS_le (f := ft) hnxn
  refine lv_aload_n hx hb dX2_takeToken_38 rfl (lv_at hl 0 rfl) ?_
  refine lv_aload_n hx hb dX2_takeToken_39 rfl (lv_at hl 0 rfl) ?_
  refine va_get (D := D) (ci := 2) (v := Value.int (nI (tS ft nn nx))) (C := RX2) (T := TX2) (N := 9) hx hb hts inG_X2 hown hK hP 0 rfl rfl 5 (by decide) (hts _ kw_1_61) (fun _ h9 => h9) rfl dX2_takeToken_40 ?_
  refine va_put (D := D) (ci := 2) (v := Value.int (nI (tS ft nn nx))) (ty := .int) (C := RX2) (T := TX2) (N := 9) hx hb hts inG_X2 tyX2 tyX2_ok nmX2 hown hK hP hD hS 0 rfl rfl 7 (by decide) (hts _ kw_1_63) (fun _ h9 => h9) rfl (by decide +kernel) rfl rfl (Nat.le_of_ble_eq_true rfl) dX2_takeToken_43 (fun H locs hP hD hS => ?_)
  have hP : va_P D vwCl [(h0, Sum.inr (2, [Value.int fk, Value.int fp, Value.ref va, Value.ref tx, Value.int (nI nn), Value.int (nI (tS ft nn nx)), Value.int tk, Value.int (nI (tS ft nn nx)), Value.int vl])), (tx, Sum.inl (tc, 400, Sum.inl ft))] H := hP
  have hD : va_D A [(h0, Sum.inr (2, [Value.int fk, Value.int fp, Value.ref va, Value.ref tx, Value.int (nI nn), Value.int (nI (tS ft nn nx)), Value.int tk, Value.int (nI (tS ft nn nx)), Value.int vl])), (tx, Sum.inl (tc, 400, Sum.inl ft))] := hD
  refine lv_aload_n hx hb dX2_takeToken_46 rfl (lv_at hl 0 rfl) ?_
  refine va_get (D := D) (ci := 2) (v := Value.int (nI (tS ft nn nx))) (C := RX2) (T := TX2) (N := 9) hx hb hts inG_X2 hown hK hP 0 rfl rfl 5 (by decide) (hts _ kw_1_61) (fun _ h9 => h9) rfl dX2_takeToken_47 ?_
  refine lv_aload_n hx hb dX2_takeToken_50 rfl (lv_at hl 0 rfl) ?_
  refine va_get (D := D) (ci := 2) (v := Value.int (nI nn)) (C := RX2) (T := TX2) (N := 9) hx hb hts inG_X2 hown hK hP 0 rfl rfl 4 (by decide) (hts _ kw_1_60) (fun _ h9 => h9) rfl dX2_takeToken_51 ?_
  refine lv_icmp_lt (tgt := 65) hx hb dX2_takeToken_54 (by decide) (fun c_1 => ?_) (fun c_1 => ?_)
  · skip
    have c_1n : (tS ft nn nx) < nn := (nI_ltI (by omega) (by omega)).mp c_1
    refine lv_aload_n hx hb dX2_takeToken_65 rfl (lv_at hl 0 rfl) ?_
    refine lv_aload_n hx hb dX2_takeToken_66 rfl (lv_at hl 0 rfl) ?_
    refine va_get (D := D) (ci := 2) (v := Value.int (nI (tS ft nn nx))) (C := RX2) (T := TX2) (N := 9) hx hb hts inG_X2 hown hK hP 0 rfl rfl 5 (by decide) (hts _ kw_1_61) (fun _ h9 => h9) rfl dX2_takeToken_67 ?_
    refine mc_Vi (rest := []) (wr := []) F hK hP hD hS hA (p_signAt l D h0 va tx nn (tS ft nn nx) fk fp tk (nI (tS ft nn nx)) vl tc ft (tS ft nn nx) (by omega) (by omega)) ⟨gk_X2_107.1, gk_X2_107.2, Nat.le_of_ble_eq_true rfl, Nat.le_of_ble_eq_true rfl⟩ [0, 1] [] [0] ⟨rfl, rfl, rfl, rfl, by decide⟩ rfl xT_move (fun _ _ _ => trivial) 0 rfl rfl rfl hl.1 rfl (Nat.le_of_ble_eq_true rfl) dX2_takeToken_70 ⟨Nat.le_of_ble_eq_true rfl, Nat.le_of_ble_eq_true rfl⟩ (fun r_2 _ H locs hw hK1 hP hD hS => ?_)
    have hP : va_P D vwCl [(h0, Sum.inr (2, [Value.int fk, Value.int fp, Value.ref va, Value.ref tx, Value.int (nI nn), Value.int (nI (tS ft nn nx)), Value.int tk, Value.int (nI (tS ft nn nx)), Value.int vl])), (tx, Sum.inl (tc, 400, Sum.inl ft))] H := hP
    have hD : va_D A [(h0, Sum.inr (2, [Value.int fk, Value.int fp, Value.ref va, Value.ref tx, Value.int (nI nn), Value.int (nI (tS ft nn nx)), Value.int tk, Value.int (nI (tS ft nn nx)), Value.int vl])), (tx, Sum.inl (tc, 400, Sum.inl ft))] := hD
    have hw_3 : r_2 = ft (tS ft nn nx) := hw
    obtain rfl : r_2 = ft (tS ft nn nx) := hw_3
    refine mc_Si (rest := []) (wr := [(h0, Sum.inr (2, [Value.int fk, Value.int fp, Value.ref va, Value.ref tx, Value.int (nI nn), Value.int (nI (tS ft nn nx)), Value.int tk, Value.int (nI (tS ft nn nx)), Value.int vl])), (tx, Sum.inl (tc, 400, Sum.inl ft))]) F hK hP hD hS hA (p_isLetter l D (ft (tS ft nn nx)) ) ⟨gk_X2_119.1, gk_X2_119.2, Nat.le_of_ble_eq_true rfl, Nat.le_of_ble_eq_true rfl⟩ [] [0, 1] [] ⟨rfl, rfl, rfl, rfl, by decide⟩ rfl xT_move (fun _ _ _ => trivial) rfl hl.1 rfl (Nat.le_of_ble_eq_true rfl) dX2_takeToken_73 ⟨Nat.le_of_ble_eq_true rfl, Nat.le_of_ble_eq_true rfl⟩ (fun r_4 _ H locs hw hK1 hP hD hS => ?_)
    have hP : va_P D vwCl [(h0, Sum.inr (2, [Value.int fk, Value.int fp, Value.ref va, Value.ref tx, Value.int (nI nn), Value.int (nI (tS ft nn nx)), Value.int tk, Value.int (nI (tS ft nn nx)), Value.int vl])), (tx, Sum.inl (tc, 400, Sum.inl ft))] H := hP
    have hD : va_D A [(h0, Sum.inr (2, [Value.int fk, Value.int fp, Value.ref va, Value.ref tx, Value.int (nI nn), Value.int (nI (tS ft nn nx)), Value.int tk, Value.int (nI (tS ft nn nx)), Value.int vl])), (tx, Sum.inl (tc, 400, Sum.inl ft))] := hD
    have hw_5 : r_4 = (if (ft (tS ft nn nx)) < 97 ∨ 122 < (ft (tS ft nn nx)) then 0 else 1) := hw
    by_cases hc_6 : (ft (tS ft nn nx)) < 97 ∨ 122 < (ft (tS ft nn nx))
    · skip
      obtain rfl : r_4 = 0 := by rw [hw_5, if_pos hc_6]
      refine lv_if_eq (tgt := 86) hx hb dX2_takeToken_76 (by decide) (fun c_7 => ?_) (fun c_7 => absurd c_7 (by decide))
      refine lv_aload_n hx hb dX2_takeToken_86 rfl (lv_at hl 0 rfl) ?_
      refine lv_aload_n hx hb dX2_takeToken_87 rfl (lv_at hl 0 rfl) ?_
      refine va_get (D := D) (ci := 2) (v := Value.int (nI (tS ft nn nx))) (C := RX2) (T := TX2) (N := 9) hx hb hts inG_X2 hown hK hP 0 rfl rfl 5 (by decide) (hts _ kw_1_61) (fun _ h9 => h9) rfl dX2_takeToken_88 ?_
      refine mc_Vi (rest := []) (wr := []) F hK hP hD hS hA (p_signAt l D h0 va tx nn (tS ft nn nx) fk fp tk (nI (tS ft nn nx)) vl tc ft (tS ft nn nx) (by omega) (by omega)) ⟨gk_X2_107.1, gk_X2_107.2, Nat.le_of_ble_eq_true rfl, Nat.le_of_ble_eq_true rfl⟩ [0, 1] [] [0] ⟨rfl, rfl, rfl, rfl, by decide⟩ rfl xT_move (fun _ _ _ => trivial) 0 rfl rfl rfl hl.1 rfl (Nat.le_of_ble_eq_true rfl) dX2_takeToken_91 ⟨Nat.le_of_ble_eq_true rfl, Nat.le_of_ble_eq_true rfl⟩ (fun r_8 _ H locs hw hK1 hP hD hS => ?_)
      have hP : va_P D vwCl [(h0, Sum.inr (2, [Value.int fk, Value.int fp, Value.ref va, Value.ref tx, Value.int (nI nn), Value.int (nI (tS ft nn nx)), Value.int tk, Value.int (nI (tS ft nn nx)), Value.int vl])), (tx, Sum.inl (tc, 400, Sum.inl ft))] H := hP
      have hD : va_D A [(h0, Sum.inr (2, [Value.int fk, Value.int fp, Value.ref va, Value.ref tx, Value.int (nI nn), Value.int (nI (tS ft nn nx)), Value.int tk, Value.int (nI (tS ft nn nx)), Value.int vl])), (tx, Sum.inl (tc, 400, Sum.inl ft))] := hD
      have hw_9 : r_8 = ft (tS ft nn nx) := hw
      obtain rfl : r_8 = ft (tS ft nn nx) := hw_9
      refine mc_Si (rest := []) (wr := [(h0, Sum.inr (2, [Value.int fk, Value.int fp, Value.ref va, Value.ref tx, Value.int (nI nn), Value.int (nI (tS ft nn nx)), Value.int tk, Value.int (nI (tS ft nn nx)), Value.int vl])), (tx, Sum.inl (tc, 400, Sum.inl ft))]) F hK hP hD hS hA (p_isDigit l D (ft (tS ft nn nx)) ) ⟨gk_X2_125.1, gk_X2_125.2, Nat.le_of_ble_eq_true rfl, Nat.le_of_ble_eq_true rfl⟩ [] [0, 1] [] ⟨rfl, rfl, rfl, rfl, by decide⟩ rfl xT_move (fun _ _ _ => trivial) rfl hl.1 rfl (Nat.le_of_ble_eq_true rfl) dX2_takeToken_94 ⟨Nat.le_of_ble_eq_true rfl, Nat.le_of_ble_eq_true rfl⟩ (fun r_10 _ H locs hw hK1 hP hD hS => ?_)
      have hP : va_P D vwCl [(h0, Sum.inr (2, [Value.int fk, Value.int fp, Value.ref va, Value.ref tx, Value.int (nI nn), Value.int (nI (tS ft nn nx)), Value.int tk, Value.int (nI (tS ft nn nx)), Value.int vl])), (tx, Sum.inl (tc, 400, Sum.inl ft))] H := hP
      have hD : va_D A [(h0, Sum.inr (2, [Value.int fk, Value.int fp, Value.ref va, Value.ref tx, Value.int (nI nn), Value.int (nI (tS ft nn nx)), Value.int tk, Value.int (nI (tS ft nn nx)), Value.int vl])), (tx, Sum.inl (tc, 400, Sum.inl ft))] := hD
      have hw_11 : r_10 = (if (ft (tS ft nn nx)) < 48 ∨ 57 < (ft (tS ft nn nx)) then 0 else 1) := hw
      by_cases hc_12 : (ft (tS ft nn nx)) < 48 ∨ 57 < (ft (tS ft nn nx))
      · skip
        obtain rfl : r_10 = 0 := by rw [hw_11, if_pos hc_12]
        refine lv_if_eq (tgt := 107) hx hb dX2_takeToken_97 (by decide) (fun c_13 => ?_) (fun c_13 => absurd c_13 (by decide))
        refine lv_aload_n hx hb dX2_takeToken_107 rfl (lv_at hl 0 rfl) ?_
        refine lv_aload_n hx hb dX2_takeToken_108 rfl (lv_at hl 0 rfl) ?_
        refine lv_aload_n hx hb dX2_takeToken_109 rfl (lv_at hl 0 rfl) ?_
        refine va_get (D := D) (ci := 2) (v := Value.int (nI (tS ft nn nx))) (C := RX2) (T := TX2) (N := 9) hx hb hts inG_X2 hown hK hP 0 rfl rfl 5 (by decide) (hts _ kw_1_61) (fun _ h9 => h9) rfl dX2_takeToken_110 ?_
        refine mc_Vi (rest := [Value.ref h0]) (wr := []) F hK hP hD hS hA (p_signAt l D h0 va tx nn (tS ft nn nx) fk fp tk (nI (tS ft nn nx)) vl tc ft (tS ft nn nx) (by omega) (by omega)) ⟨gk_X2_107.1, gk_X2_107.2, Nat.le_of_ble_eq_true rfl, Nat.le_of_ble_eq_true rfl⟩ [0, 1] [] [0] ⟨rfl, rfl, rfl, rfl, by decide⟩ rfl xT_move (fun _ _ _ => trivial) 0 rfl rfl rfl hl.1 rfl (Nat.le_of_ble_eq_true rfl) dX2_takeToken_113 ⟨Nat.le_of_ble_eq_true rfl, Nat.le_of_ble_eq_true rfl⟩ (fun r_14 _ H locs hw hK1 hP hD hS => ?_)
        have hP : va_P D vwCl [(h0, Sum.inr (2, [Value.int fk, Value.int fp, Value.ref va, Value.ref tx, Value.int (nI nn), Value.int (nI (tS ft nn nx)), Value.int tk, Value.int (nI (tS ft nn nx)), Value.int vl])), (tx, Sum.inl (tc, 400, Sum.inl ft))] H := hP
        have hD : va_D A [(h0, Sum.inr (2, [Value.int fk, Value.int fp, Value.ref va, Value.ref tx, Value.int (nI nn), Value.int (nI (tS ft nn nx)), Value.int tk, Value.int (nI (tS ft nn nx)), Value.int vl])), (tx, Sum.inl (tc, 400, Sum.inl ft))] := hD
        have hw_15 : r_14 = ft (tS ft nn nx) := hw
        obtain rfl : r_14 = ft (tS ft nn nx) := hw_15
        refine lv_bipush (v := 59) hx hb dX2_takeToken_116 (by decide) ?_
        refine lv_icmp_ne (tgt := 125) hx hb dX2_takeToken_118 (by decide) (fun c_16 => ?_) (fun c_16 => ?_)
        · skip
          refine lv_iconst (v := 4) hx hb dX2_takeToken_125 (by decide) ?_
          refine va_put (D := D) (ci := 2) (v := Value.int 4) (ty := .int) (C := RX2) (T := TX2) (N := 9) hx hb hts inG_X2 tyX2 tyX2_ok nmX2 hown hK hP hD hS 0 rfl rfl 6 (by decide) (hts _ kw_1_62) (fun _ h9 => h9) rfl (by decide +kernel) rfl rfl (Nat.le_of_ble_eq_true rfl) dX2_takeToken_126 (fun H locs hP hD hS => ?_)
          have hP : va_P D vwCl [(h0, Sum.inr (2, [Value.int fk, Value.int fp, Value.ref va, Value.ref tx, Value.int (nI nn), Value.int (nI (tS ft nn nx)), Value.int 4, Value.int (nI (tS ft nn nx)), Value.int vl])), (tx, Sum.inl (tc, 400, Sum.inl ft))] H := hP
          have hD : va_D A [(h0, Sum.inr (2, [Value.int fk, Value.int fp, Value.ref va, Value.ref tx, Value.int (nI nn), Value.int (nI (tS ft nn nx)), Value.int 4, Value.int (nI (tS ft nn nx)), Value.int vl])), (tx, Sum.inl (tc, 400, Sum.inl ft))] := hD
          refine lv_aload_n hx hb dX2_takeToken_129 rfl (lv_at hl 0 rfl) ?_
          refine lv_dup hx hb dX2_takeToken_130 rfl ?_
          refine va_get (D := D) (ci := 2) (v := Value.int (nI (tS ft nn nx))) (C := RX2) (T := TX2) (N := 9) hx hb hts inG_X2 hown hK hP 0 rfl rfl 5 (by decide) (hts _ kw_1_61) (fun _ h9 => h9) rfl dX2_takeToken_131 ?_
          refine lv_iconst (v := 1) hx hb dX2_takeToken_134 (by decide) ?_
          refine lv_iadd hx hb dX2_takeToken_135 ?_
          refine lv_topi (fun z_17 ez_17 => ?_)
          obtain rfl : z_17 = nI (tS ft nn nx + 1) := ez_17.trans (nI_add (tS ft nn nx) 1)
          refine va_put (D := D) (ci := 2) (v := Value.int (nI (tS ft nn nx + 1))) (ty := .int) (C := RX2) (T := TX2) (N := 9) hx hb hts inG_X2 tyX2 tyX2_ok nmX2 hown hK hP hD hS 0 rfl rfl 5 (by decide) (hts _ kw_1_61) (fun _ h9 => h9) rfl (by decide +kernel) rfl rfl (Nat.le_of_ble_eq_true rfl) dX2_takeToken_136 (fun H locs hP hD hS => ?_)
          have hP : va_P D vwCl [(h0, Sum.inr (2, [Value.int fk, Value.int fp, Value.ref va, Value.ref tx, Value.int (nI nn), Value.int (nI (tS ft nn nx + 1)), Value.int 4, Value.int (nI (tS ft nn nx)), Value.int vl])), (tx, Sum.inl (tc, 400, Sum.inl ft))] H := hP
          have hD : va_D A [(h0, Sum.inr (2, [Value.int fk, Value.int fp, Value.ref va, Value.ref tx, Value.int (nI nn), Value.int (nI (tS ft nn nx + 1)), Value.int 4, Value.int (nI (tS ft nn nx)), Value.int vl])), (tx, Sum.inl (tc, 400, Sum.inl ft))] := hD
          have hP9 := hP.sub (ws' := [(h0, Sum.inr (2, [Value.int fk, Value.int fp, Value.ref va, Value.ref tx, Value.int (nI nn), Value.int (nI (tS ft nn nx + 1)), Value.int 4, Value.int (nI (tS ft nn nx)), Value.int vl])), (tx, Sum.inl (tc, 400, Sum.inl ft))]) [0, 1] rfl
          have hD9 := hD.sub (ws' := [(h0, Sum.inr (2, [Value.int fk, Value.int fp, Value.ref va, Value.ref tx, Value.int (nI nn), Value.int (nI (tS ft nn nx + 1)), Value.int 4, Value.int (nI (tS ft nn nx)), Value.int vl])), (tx, Sum.inl (tc, 400, Sum.inl ft))]) [0, 1] (by decide) rfl
          have hK9 := hK.sub (tys' := []) [] rfl
          refine W.widen (k := 0) (n := 0) (by decide) (by decide) ?_
          exact W.vret hx hb hr (fun t ht hW => ⟨⟨(tS ft nn nx, tS ft nn nx + 1, 4, vl), rfl, ⟨rfl, (tN_3 (Nat.not_le.mpr c_1n) (cLt_f hc_6) (cDg_f hc_12)).symm, (tK_4 (Nat.not_le.mpr c_1n) (cLt_f hc_6) (cDg_f hc_12) c_16).symm, fun h => absurd h (by decide)⟩, by rw [ht]; exact hP9, va_K.moved hW.alike hK9, hD9⟩, hS.F ht⟩) hS.2.2 dX2_takeToken_139
        · skip
          refine lv_iconst (v := 3) hx hb dX2_takeToken_121 (by decide) ?_
          refine lv_goto (tgt := 126) hx hb dX2_takeToken_122 (by decide) ?_
          refine va_put (D := D) (ci := 2) (v := Value.int 3) (ty := .int) (C := RX2) (T := TX2) (N := 9) hx hb hts inG_X2 tyX2 tyX2_ok nmX2 hown hK hP hD hS 0 rfl rfl 6 (by decide) (hts _ kw_1_62) (fun _ h9 => h9) rfl (by decide +kernel) rfl rfl (Nat.le_of_ble_eq_true rfl) dX2_takeToken_126 (fun H locs hP hD hS => ?_)
          have hP : va_P D vwCl [(h0, Sum.inr (2, [Value.int fk, Value.int fp, Value.ref va, Value.ref tx, Value.int (nI nn), Value.int (nI (tS ft nn nx)), Value.int 3, Value.int (nI (tS ft nn nx)), Value.int vl])), (tx, Sum.inl (tc, 400, Sum.inl ft))] H := hP
          have hD : va_D A [(h0, Sum.inr (2, [Value.int fk, Value.int fp, Value.ref va, Value.ref tx, Value.int (nI nn), Value.int (nI (tS ft nn nx)), Value.int 3, Value.int (nI (tS ft nn nx)), Value.int vl])), (tx, Sum.inl (tc, 400, Sum.inl ft))] := hD
          refine lv_aload_n hx hb dX2_takeToken_129 rfl (lv_at hl 0 rfl) ?_
          refine lv_dup hx hb dX2_takeToken_130 rfl ?_
          refine va_get (D := D) (ci := 2) (v := Value.int (nI (tS ft nn nx))) (C := RX2) (T := TX2) (N := 9) hx hb hts inG_X2 hown hK hP 0 rfl rfl 5 (by decide) (hts _ kw_1_61) (fun _ h9 => h9) rfl dX2_takeToken_131 ?_
          refine lv_iconst (v := 1) hx hb dX2_takeToken_134 (by decide) ?_
          refine lv_iadd hx hb dX2_takeToken_135 ?_
          refine lv_topi (fun z_18 ez_18 => ?_)
          obtain rfl : z_18 = nI (tS ft nn nx + 1) := ez_18.trans (nI_add (tS ft nn nx) 1)
          refine va_put (D := D) (ci := 2) (v := Value.int (nI (tS ft nn nx + 1))) (ty := .int) (C := RX2) (T := TX2) (N := 9) hx hb hts inG_X2 tyX2 tyX2_ok nmX2 hown hK hP hD hS 0 rfl rfl 5 (by decide) (hts _ kw_1_61) (fun _ h9 => h9) rfl (by decide +kernel) rfl rfl (Nat.le_of_ble_eq_true rfl) dX2_takeToken_136 (fun H locs hP hD hS => ?_)
          have hP : va_P D vwCl [(h0, Sum.inr (2, [Value.int fk, Value.int fp, Value.ref va, Value.ref tx, Value.int (nI nn), Value.int (nI (tS ft nn nx + 1)), Value.int 3, Value.int (nI (tS ft nn nx)), Value.int vl])), (tx, Sum.inl (tc, 400, Sum.inl ft))] H := hP
          have hD : va_D A [(h0, Sum.inr (2, [Value.int fk, Value.int fp, Value.ref va, Value.ref tx, Value.int (nI nn), Value.int (nI (tS ft nn nx + 1)), Value.int 3, Value.int (nI (tS ft nn nx)), Value.int vl])), (tx, Sum.inl (tc, 400, Sum.inl ft))] := hD
          have hP9 := hP.sub (ws' := [(h0, Sum.inr (2, [Value.int fk, Value.int fp, Value.ref va, Value.ref tx, Value.int (nI nn), Value.int (nI (tS ft nn nx + 1)), Value.int 3, Value.int (nI (tS ft nn nx)), Value.int vl])), (tx, Sum.inl (tc, 400, Sum.inl ft))]) [0, 1] rfl
          have hD9 := hD.sub (ws' := [(h0, Sum.inr (2, [Value.int fk, Value.int fp, Value.ref va, Value.ref tx, Value.int (nI nn), Value.int (nI (tS ft nn nx + 1)), Value.int 3, Value.int (nI (tS ft nn nx)), Value.int vl])), (tx, Sum.inl (tc, 400, Sum.inl ft))]) [0, 1] (by decide) rfl
          have hK9 := hK.sub (tys' := []) [] rfl
          refine W.widen (k := 0) (n := 0) (by decide) (by decide) ?_
          exact W.vret hx hb hr (fun t ht hW => ⟨⟨(tS ft nn nx, tS ft nn nx + 1, 3, vl), rfl, ⟨rfl, (tN_3 (Nat.not_le.mpr c_1n) (cLt_f hc_6) (cDg_f hc_12)).symm, (tK_3 (Nat.not_le.mpr c_1n) (cLt_f hc_6) (cDg_f hc_12) c_16).symm, fun h => absurd h (by decide)⟩, by rw [ht]; exact hP9, va_K.moved hW.alike hK9, hD9⟩, hS.F ht⟩) hS.2.2 dX2_takeToken_139
      · skip
        obtain rfl : r_10 = 1 := by rw [hw_11, if_neg hc_12]
        refine lv_if_eq (tgt := 107) hx hb dX2_takeToken_97 (by decide) (fun c_19 => absurd c_19 (by decide)) (fun c_19 => ?_)
        refine lv_aload_n hx hb dX2_takeToken_100 rfl (lv_at hl 0 rfl) ?_
        refine mc_Vv (rest := []) (wr := []) F hK hP hD hS hA (p_takeNumber l D h0 va tx nn (tS ft nn nx) fk fp tk (nI (tS ft nn nx)) vl tc ft (by omega) (by omega)) ⟨gk_X2_128.1, gk_X2_128.2, Nat.le_of_ble_eq_true rfl, Nat.le_of_ble_eq_true rfl⟩ [0, 1] [] [0] ⟨rfl, rfl, rfl, rfl, by decide⟩ rfl xT_move (fun _ _ _ => trivial) 0 rfl rfl rfl hl.1 rfl (Nat.le_of_ble_eq_true rfl) dX2_takeToken_101 ⟨Nat.le_of_ble_eq_true rfl, Nat.le_of_ble_eq_true rfl⟩ (fun _ H locs hw hK1 hP hD hS => ?_)
        have hP : va_P D vwCl [(h0, Sum.inr (2, [Value.int fk, Value.int fp, Value.ref va, Value.ref tx, Value.int (nI nn), Value.int (nI (run (cDg ft) nn (tS ft nn nx))), Value.int 2, Value.int (nI (tS ft nn nx)), Value.int (nI (tV ft nn (tS ft nn nx)))])), (tx, Sum.inl (tc, 400, Sum.inl ft))] H := hP
        have hD : va_D A [(h0, Sum.inr (2, [Value.int fk, Value.int fp, Value.ref va, Value.ref tx, Value.int (nI nn), Value.int (nI (run (cDg ft) nn (tS ft nn nx))), Value.int 2, Value.int (nI (tS ft nn nx)), Value.int (nI (tV ft nn (tS ft nn nx)))])), (tx, Sum.inl (tc, 400, Sum.inl ft))] := hD
        refine lv_goto (tgt := 139) hx hb dX2_takeToken_104 (by decide) ?_
        have hP9 := hP.sub (ws' := [(h0, Sum.inr (2, [Value.int fk, Value.int fp, Value.ref va, Value.ref tx, Value.int (nI nn), Value.int (nI ((run (cDg ft) nn (tS ft nn nx)))), Value.int 2, Value.int (nI (tS ft nn nx)), Value.int ((nI (tV ft nn (tS ft nn nx))))])), (tx, Sum.inl (tc, 400, Sum.inl ft))]) [0, 1] rfl
        have hD9 := hD.sub (ws' := [(h0, Sum.inr (2, [Value.int fk, Value.int fp, Value.ref va, Value.ref tx, Value.int (nI nn), Value.int (nI ((run (cDg ft) nn (tS ft nn nx)))), Value.int 2, Value.int (nI (tS ft nn nx)), Value.int ((nI (tV ft nn (tS ft nn nx))))])), (tx, Sum.inl (tc, 400, Sum.inl ft))]) [0, 1] (by decide) rfl
        have hK9 := hK.sub (tys' := []) [] rfl
        refine W.widen (k := 0) (n := 0) (by decide) (by decide) ?_
        exact W.vret hx hb hr (fun t ht hW => ⟨⟨(tS ft nn nx, run (cDg ft) nn (tS ft nn nx), 2, nI (tV ft nn (tS ft nn nx))), rfl, ⟨rfl, (tN_2 (Nat.not_le.mpr c_1n) (cLt_f hc_6) (cDg_t hc_12)).symm, (tK_2 (Nat.not_le.mpr c_1n) (cLt_f hc_6) (cDg_t hc_12)).symm, fun _ => rfl⟩, by rw [ht]; exact hP9, va_K.moved hW.alike hK9, hD9⟩, hS.F ht⟩) hS.2.2 dX2_takeToken_139
    · skip
      obtain rfl : r_4 = 1 := by rw [hw_5, if_neg hc_6]
      refine lv_if_eq (tgt := 86) hx hb dX2_takeToken_76 (by decide) (fun c_22 => absurd c_22 (by decide)) (fun c_22 => ?_)
      refine lv_aload_n hx hb dX2_takeToken_79 rfl (lv_at hl 0 rfl) ?_
      refine mc_Vv (rest := []) (wr := []) F hK hP hD hS hA (p_takeWord l D h0 va tx nn (tS ft nn nx) fk fp tk (nI (tS ft nn nx)) vl tc ft (by omega) (by omega)) ⟨gk_X2_122.1, gk_X2_122.2, Nat.le_of_ble_eq_true rfl, Nat.le_of_ble_eq_true rfl⟩ [0, 1] [] [0] ⟨rfl, rfl, rfl, rfl, by decide⟩ rfl xT_move (fun _ _ _ => trivial) 0 rfl rfl rfl hl.1 rfl (Nat.le_of_ble_eq_true rfl) dX2_takeToken_80 ⟨Nat.le_of_ble_eq_true rfl, Nat.le_of_ble_eq_true rfl⟩ (fun _ H locs hw hK1 hP hD hS => ?_)
      have hP : va_P D vwCl [(h0, Sum.inr (2, [Value.int fk, Value.int fp, Value.ref va, Value.ref tx, Value.int (nI nn), Value.int (nI (run (cLt ft) nn (tS ft nn nx))), Value.int 1, Value.int (nI (tS ft nn nx)), Value.int vl])), (tx, Sum.inl (tc, 400, Sum.inl ft))] H := hP
      have hD : va_D A [(h0, Sum.inr (2, [Value.int fk, Value.int fp, Value.ref va, Value.ref tx, Value.int (nI nn), Value.int (nI (run (cLt ft) nn (tS ft nn nx))), Value.int 1, Value.int (nI (tS ft nn nx)), Value.int vl])), (tx, Sum.inl (tc, 400, Sum.inl ft))] := hD
      refine lv_goto (tgt := 139) hx hb dX2_takeToken_83 (by decide) ?_
      have hP9 := hP.sub (ws' := [(h0, Sum.inr (2, [Value.int fk, Value.int fp, Value.ref va, Value.ref tx, Value.int (nI nn), Value.int (nI ((run (cLt ft) nn (tS ft nn nx)))), Value.int 1, Value.int (nI (tS ft nn nx)), Value.int vl])), (tx, Sum.inl (tc, 400, Sum.inl ft))]) [0, 1] rfl
      have hD9 := hD.sub (ws' := [(h0, Sum.inr (2, [Value.int fk, Value.int fp, Value.ref va, Value.ref tx, Value.int (nI nn), Value.int (nI ((run (cLt ft) nn (tS ft nn nx)))), Value.int 1, Value.int (nI (tS ft nn nx)), Value.int vl])), (tx, Sum.inl (tc, 400, Sum.inl ft))]) [0, 1] (by decide) rfl
      have hK9 := hK.sub (tys' := []) [] rfl
      refine W.widen (k := 0) (n := 0) (by decide) (by decide) ?_
      exact W.vret hx hb hr (fun t ht hW => ⟨⟨(tS ft nn nx, run (cLt ft) nn (tS ft nn nx), 1, vl), rfl, ⟨rfl, (tN_1 (Nat.not_le.mpr c_1n) (cLt_t hc_6)).symm, (tK_1 (Nat.not_le.mpr c_1n) (cLt_t hc_6)).symm, fun h => absurd h (by decide)⟩, by rw [ht]; exact hP9, va_K.moved hW.alike hK9, hD9⟩, hS.F ht⟩) hS.2.2 dX2_takeToken_139
  · skip
    have c_1n : nn ≤ (tS ft nn nx) := nb_lt (by omega) (by omega) c_1
    refine lv_aload_n hx hb dX2_takeToken_57 rfl (lv_at hl 0 rfl) ?_
    refine lv_iconst (v := 0) hx hb dX2_takeToken_58 (by decide) ?_
    refine va_put (D := D) (ci := 2) (v := Value.int 0) (ty := .int) (C := RX2) (T := TX2) (N := 9) hx hb hts inG_X2 tyX2 tyX2_ok nmX2 hown hK hP hD hS 0 rfl rfl 6 (by decide) (hts _ kw_1_62) (fun _ h9 => h9) rfl (by decide +kernel) rfl rfl (Nat.le_of_ble_eq_true rfl) dX2_takeToken_59 (fun H locs hP hD hS => ?_)
    have hP : va_P D vwCl [(h0, Sum.inr (2, [Value.int fk, Value.int fp, Value.ref va, Value.ref tx, Value.int (nI nn), Value.int (nI (tS ft nn nx)), Value.int 0, Value.int (nI (tS ft nn nx)), Value.int vl])), (tx, Sum.inl (tc, 400, Sum.inl ft))] H := hP
    have hD : va_D A [(h0, Sum.inr (2, [Value.int fk, Value.int fp, Value.ref va, Value.ref tx, Value.int (nI nn), Value.int (nI (tS ft nn nx)), Value.int 0, Value.int (nI (tS ft nn nx)), Value.int vl])), (tx, Sum.inl (tc, 400, Sum.inl ft))] := hD
    refine lv_goto (tgt := 139) hx hb dX2_takeToken_62 (by decide) ?_
    have hP9 := hP.sub (ws' := [(h0, Sum.inr (2, [Value.int fk, Value.int fp, Value.ref va, Value.ref tx, Value.int (nI nn), Value.int (nI (tS ft nn nx)), Value.int 0, Value.int (nI (tS ft nn nx)), Value.int vl])), (tx, Sum.inl (tc, 400, Sum.inl ft))]) [0, 1] rfl
    have hD9 := hD.sub (ws' := [(h0, Sum.inr (2, [Value.int fk, Value.int fp, Value.ref va, Value.ref tx, Value.int (nI nn), Value.int (nI (tS ft nn nx)), Value.int 0, Value.int (nI (tS ft nn nx)), Value.int vl])), (tx, Sum.inl (tc, 400, Sum.inl ft))]) [0, 1] (by decide) rfl
    have hK9 := hK.sub (tys' := []) [] rfl
    refine W.widen (k := 0) (n := 0) (by decide) (by decide) ?_
    exact W.vret hx hb hr (fun t ht hW => ⟨⟨(tS ft nn nx, tS ft nn nx, 0, vl), rfl, ⟨rfl, (tN_0 c_1n).symm, (tK_0 c_1n).symm, fun h => absurd h (by decide)⟩, by rw [ht]; exact hP9, va_K.moved hW.alike hK9, hD9⟩, hS.F ht⟩) hS.2.2 dX2_takeToken_139
