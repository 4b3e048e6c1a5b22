set_option maxHeartbeats 4000000 in
set_option maxRecDepth 100000 in
theorem s_isFirm (l : Launch) (D : va_G) (h0 : Nat) (w : Nat) (h : Nat) (q1 : Nat) (q2 : Nat) (q3 : Nat) (q4 : Nat) (q5 : Nat) (q6 : Nat) (cy1 : ClassId) (f1 : Nat → Int32) (cy5 : ClassId) (f5 : Nat → Int32) (x : Int32) (y : Int32) (h3 : w ≤ 10) (h4 : h ≤ 10) : cI l yX6_isFirm (.code yX6_isFirm cX6_isFirm 4 (some .boolean)) ({ frames := 1, cells := 0, slots := 0, locals := 22 }) D [(cy1, .int), (cy5, .boolean)] [(h0, Sum.inr (5, [Value.int (nI w), Value.int (nI h), Value.ref q1, Value.ref q2, Value.ref q3, Value.ref q4, Value.ref q5, Value.ref q6])), (q1, Sum.inl (cy1, 100, Sum.inl f1)), (q5, Sum.inl (cy5, 100, Sum.inl f5))] xT [Value.ref h0, Value.int x, Value.int y] (S := Unit) (fun r _ => (r = 1 ∧ (¬ (x < 0 ∨ ¬ x < nI w ∨ y < 0 ∨ ¬ y < nI h) ∧ 0 < f1 (cl x y) ∧ f5 (cl x y) = 0)) ∨ (r = 0 ∧ ¬ (¬ (x < 0 ∨ ¬ x < nI w ∨ y < 0 ∨ ¬ y < nI h) ∧ 0 < f1 (cl x y) ∧ f5 (cl x y) = 0))) (fun _ => []) (fun _ => [(h0, Sum.inr (5, [Value.int (nI w), Value.int (nI h), Value.ref q1, Value.ref q2, Value.ref q3, Value.ref q4, Value.ref q5, Value.ref q6])), (q1, Sum.inl (cy1, 100, Sum.inl f1)), (q5, Sum.inl (cy5, 100, Sum.inl f5))]) := by
  intro sz
  refine Met.ofW (cc := cX6_isFirm) (maxL := 4) (ret := (some .boolean)) (by decide) rfl ?_
  intro p e s m args below meth c s₁ B hml hv
  obtain ⟨rfl, hsz, hP, hK, hD0, hX⟩ := hv
  have hx := B.exec
  have hb := B.bytes
  have hr := B.returns
  have hts0 := atoms_spec (ws := .code yX6_isFirm cX6_isFirm 4 (some .boolean) :: gw) B.pre
  have hts := fun (w : Cond) (h : w ∈ gw) => hts0 w (List.mem_cons_of_mem _ h)
  have hown : s.vm.findClass RX6 = some m.cls := findClass_of_methodNamed B.named
  have hlocks := B.notSynchronized
  have F : mFix p s m _ c cX6_isFirm 4 RX6 := ⟨hx, hb, hml, hown, hts⟩
  subst hsz
  have hD := hD0.self (sz := s.heap.size)
  generalize hAe : va_A [(h0, Sum.inr (5, [Value.int (nI w), Value.int (nI h), Value.ref q1, Value.ref q2, Value.ref q3, Value.ref q4, Value.ref q5, Value.ref q6])), (q1, Sum.inl (cy1, 100, Sum.inl f1)), (q5, Sum.inl (cy5, 100, Sum.inl f5))] s.heap.size = A at hD hX ⊢
  have hA : ∀ q : Nat, s.heap.size ≤ q → A q := fun q h => by rw [← hAe]; exact Or.inr h
  have hS : va_S A s.heap s.heap [] := va_S.rf
  have hl := lv_entry ([Value.ref h0, Value.int x, Value.int y]) (n := 4) (Nat.le_of_ble_eq_true rfl)
  rw [lg_entry_eq]
  generalize (lg_sl ([Value.ref h0, Value.int x, Value.int y]) ++ List.replicate (4 - (lg_sl ([Value.ref h0, Value.int x, Value.int y])).length) Slot.unset).toArray = ls at hl ⊢
  have hl : lv_has ls 4 [(0, Value.ref h0), (1, Value.int x), (2, Value.int y)] := hl
  have hP : va_P D vwCl [(h0, Sum.inr (5, [Value.int (nI w), Value.int (nI h), Value.ref q1, Value.ref q2, Value.ref q3, Value.ref q4, Value.ref q5, Value.ref q6])), (q1, Sum.inl (cy1, 100, Sum.inl f1)), (q5, Sum.inl (cy5, 100, Sum.inl f5))] s.heap := hP
  refine lv_aload_n hx hb dX6_isFirm_0 rfl (lv_at hl 0 rfl) ?_
  refine lv_iload_n hx hb dX6_isFirm_1 rfl (lv_at hl 1 rfl) ?_
  refine lv_iload_n hx hb dX6_isFirm_2 rfl (lv_at hl 2 rfl) ?_
  refine mc_Vi (rest := []) (wr := [(q1, Sum.inl (cy1, 100, Sum.inl f1)), (q5, Sum.inl (cy5, 100, Sum.inl f5))]) F hK hP hD hS hA (c_has_any l D h0 q1 q2 q3 q4 q5 q6 w h x y (by omega) (by omega)) ⟨gk_X6_42.1, gk_X6_42.2, Nat.le_of_ble_eq_true rfl, Nat.le_of_ble_eq_true rfl⟩ [0] [1, 2] [] ⟨rfl, rfl, rfl, rfl, by decide⟩ rfl xT_move (fun _ _ _ => trivial) 0 rfl rfl rfl hl.1 rfl (Nat.le_of_ble_eq_true rfl) dX6_isFirm_3 ⟨Nat.le_of_ble_eq_true rfl, Nat.le_of_ble_eq_true rfl⟩ (fun r_1 _ H locs hw hK1 hP hD hS => ?_)
  have hP : va_P D vwCl [(q1, Sum.inl (cy1, 100, Sum.inl f1)), (q5, Sum.inl (cy5, 100, Sum.inl f5)), (h0, Sum.inr (5, [Value.int (nI w), Value.int (nI h), Value.ref q1, Value.ref q2, Value.ref q3, Value.ref q4, Value.ref q5, Value.ref q6]))] H := hP
  have hD : va_D A [(q1, Sum.inl (cy1, 100, Sum.inl f1)), (q5, Sum.inl (cy5, 100, Sum.inl f5)), (h0, Sum.inr (5, [Value.int (nI w), Value.int (nI h), Value.ref q1, Value.ref q2, Value.ref q3, Value.ref q4, Value.ref q5, Value.ref q6]))] := hD
  have hw_2 : r_1 = (if (x < 0 ∨ ¬ x < nI w ∨ y < 0 ∨ ¬ y < nI h) then 0 else 1) := hw
  by_cases ho_3 : (x < 0 ∨ ¬ x < nI w ∨ y < 0 ∨ ¬ y < nI h)
  · skip
    obtain rfl : r_1 = 0 := by rw [hw_2, if_pos ho_3]
    have hzo := out_z (by omega) (by omega) ho_3
    refine lv_if_ne (tgt := 11) hx hb dX6_isFirm_6 (by decide) (fun c_4 => absurd c_4 (by decide)) (fun c_4 => ?_)
    refine lv_iconst (v := 0) hx hb dX6_isFirm_9 (by decide) ?_
    have hP9 := hP.sub (ws' := [(h0, Sum.inr (5, [Value.int (nI w), Value.int (nI h), Value.ref q1, Value.ref q2, Value.ref q3, Value.ref q4, Value.ref q5, Value.ref q6])), (q1, Sum.inl (cy1, 100, Sum.inl f1)), (q5, Sum.inl (cy5, 100, Sum.inl f5))]) [2, 0, 1] rfl
    have hD9 := hD.sub (ws' := [(h0, Sum.inr (5, [Value.int (nI w), Value.int (nI h), Value.ref q1, Value.ref q2, Value.ref q3, Value.ref q4, Value.ref q5, Value.ref q6])), (q1, Sum.inl (cy1, 100, Sum.inl f1)), (q5, Sum.inl (cy5, 100, Sum.inl f5))]) [2, 0, 1] (by decide) rfl
    have hK9 := hK.sub (tys' := []) [] rfl
    refine W.widen (k := 0) (n := 0) (by decide) (by decide) ?_
    exact W.zret (v := 0) hx hb hr rfl (fun t ht hW => ⟨⟨0, (), rfl, Or.inr ⟨rfl, fun q => q.1 ho_3⟩, by rw [ht]; exact hP9, va_K.moved hW.alike hK9, hD9⟩, hS.F ht⟩) hS.2.2 dX6_isFirm_10
  · skip
    obtain rfl : r_1 = 1 := by rw [hw_2, if_neg ho_3]
    obtain ⟨i_5, hi_5, ei_5⟩ : ∃ j : Nat, j < w ∧ x = nI j := n_lt (fun q => ho_3 (Or.inl q)) (fun q => ho_3 (Or.inr (Or.inl (Int32.not_lt.mpr q)))) (by omega)
    obtain ⟨j_6, hj_6, ej_6⟩ : ∃ j : Nat, j < h ∧ y = nI j := n_lt (fun q => ho_3 (Or.inr (Or.inr (Or.inl q)))) (fun q => ho_3 (Or.inr (Or.inr (Or.inr (Int32.not_lt.mpr q))))) (by omega)
    have hzi_5 := in_z ei_5 (by omega)
    have hzj_6 := in_z ej_6 (by omega)
    subst ei_5
    subst ej_6
    have hcl : cl (nI i_5) (nI j_6) = j_6 * 10 + i_5 := cl_nI (by omega) (by omega)
    have hl : lv_has ls 4 [(0, Value.ref h0), (1, Value.int (nI i_5)), (2, Value.int (nI j_6))] := hl
    refine lv_if_ne (tgt := 11) hx hb dX6_isFirm_6 (by decide) (fun c_7 => ?_) (fun c_7 => absurd c_7 (by decide))
    refine lv_aload_n hx hb dX6_isFirm_11 rfl (lv_at hl 0 rfl) ?_
    refine lv_iload_n hx hb dX6_isFirm_12 rfl (lv_at hl 1 rfl) ?_
    refine lv_iload_n hx hb dX6_isFirm_13 rfl (lv_at hl 2 rfl) ?_
    refine mc_Vi (rest := []) (wr := [(q1, Sum.inl (cy1, 100, Sum.inl f1)), (q5, Sum.inl (cy5, 100, Sum.inl f5))]) F hK hP hD hS hA (c_spotOf l D h0 q1 q2 q3 q4 q5 q6 w h i_5 j_6 ) ⟨gk_X6_46.1, gk_X6_46.2, Nat.le_of_ble_eq_true rfl, Nat.le_of_ble_eq_true rfl⟩ [2] [0, 1] [] ⟨rfl, rfl, rfl, rfl, by decide⟩ rfl xT_move (fun _ _ _ => trivial) 2 rfl rfl rfl hl.1 rfl (Nat.le_of_ble_eq_true rfl) dX6_isFirm_14 ⟨Nat.le_of_ble_eq_true rfl, Nat.le_of_ble_eq_true rfl⟩ (fun r_8 _ H locs hw hK1 hP hD hS => ?_)
    have hP : va_P D vwCl [(q1, Sum.inl (cy1, 100, Sum.inl f1)), (q5, Sum.inl (cy5, 100, Sum.inl f5)), (h0, Sum.inr (5, [Value.int (nI w), Value.int (nI h), Value.ref q1, Value.ref q2, Value.ref q3, Value.ref q4, Value.ref q5, Value.ref q6]))] H := hP
    have hD : va_D A [(q1, Sum.inl (cy1, 100, Sum.inl f1)), (q5, Sum.inl (cy5, 100, Sum.inl f5)), (h0, Sum.inr (5, [Value.int (nI w), Value.int (nI h), Value.ref q1, Value.ref q2, Value.ref q3, Value.ref q4, Value.ref q5, Value.ref q6]))] := hD
    have hw_9 : r_8 = nI (j_6 * 10 + i_5) := hw
    obtain rfl : r_8 = nI (j_6 * 10 + i_5) := hw_9
    refine lv_istore_n (lv' := [(3, Value.int (nI (j_6 * 10 + i_5))), (0, Value.ref h0), (1, Value.int (nI i_5)), (2, Value.int (nI j_6))]) hx hb dX6_isFirm_17 rfl hl (by decide) rfl (fun ls hl => ?_)
    refine lv_aload_n hx hb dX6_isFirm_18 rfl (lv_at hl 1 rfl) ?_
    refine va_get (D := D) (ci := 5) (v := Value.ref q1) (C := RX6) (T := TX6) (N := 8) hx hb hts inG_X6 hown hK hP 2 rfl rfl 2 (by decide) (hts _ kw_1_148) (fun _ h9 => h9) rfl dX6_isFirm_19 ?_
    refine lv_iload_n hx hb dX6_isFirm_22 rfl (lv_at hl 0 rfl) ?_
    refine m_iald hx hb hK hP 0 0 rfl rfl (j_6 * 10 + i_5) rfl (by omega) (by decide) dX6_isFirm_23 ?_
    refine lv_topi (fun v_10 ev_10 => ?_)
    refine lv_if_le (tgt := 40) hx hb dX6_isFirm_24 (by decide) (fun c_11 => ?_) (fun c_11 => ?_)
    · skip
      have c_11 := Int32.not_lt.mpr c_11
      refine lv_iconst (v := 0) hx hb dX6_isFirm_40 (by decide) ?_
      have hP9 := hP.sub (ws' := [(h0, Sum.inr (5, [Value.int (nI w), Value.int (nI h), Value.ref q1, Value.ref q2, Value.ref q3, Value.ref q4, Value.ref q5, Value.ref q6])), (q1, Sum.inl (cy1, 100, Sum.inl f1)), (q5, Sum.inl (cy5, 100, Sum.inl f5))]) [2, 0, 1] rfl
      have hD9 := hD.sub (ws' := [(h0, Sum.inr (5, [Value.int (nI w), Value.int (nI h), Value.ref q1, Value.ref q2, Value.ref q3, Value.ref q4, Value.ref q5, Value.ref q6])), (q1, Sum.inl (cy1, 100, Sum.inl f1)), (q5, Sum.inl (cy5, 100, Sum.inl f5))]) [2, 0, 1] (by decide) rfl
      have hK9 := hK.sub (tys' := []) [] rfl
      refine W.widen (k := 0) (n := 0) (by decide) (by decide) ?_
      exact W.zret (v := 0) hx hb hr rfl (fun t ht hW => ⟨⟨0, (), rfl, (by rw [hcl]; exact Or.inr ⟨rfl, fun q => c_11 (by rw [ev_10]; exact q.2.1)⟩), by rw [ht]; exact hP9, va_K.moved hW.alike hK9, hD9⟩, hS.F ht⟩) hS.2.2 dX6_isFirm_41
    · skip
      have c_11 := Int32.not_le.mp c_11
      refine lv_aload_n hx hb dX6_isFirm_27 rfl (lv_at hl 1 rfl) ?_
      refine va_get (D := D) (ci := 5) (v := Value.ref q5) (C := RX6) (T := TX6) (N := 8) hx hb hts inG_X6 hown hK hP 2 rfl rfl 6 (by decide) (hts _ kw_1_157) (fun _ h9 => h9) rfl dX6_isFirm_28 ?_
      refine lv_iload_n hx hb dX6_isFirm_31 rfl (lv_at hl 0 rfl) ?_
      refine m_zald hx hb hK hP 1 1 rfl rfl (j_6 * 10 + i_5) rfl (by omega) (by decide) dX6_isFirm_32 ?_
      refine lv_topi (fun v_12 ev_12 => ?_)
      refine lv_if_ne (tgt := 40) hx hb dX6_isFirm_33 (by decide) (fun c_13 => ?_) (fun c_13 => ?_)
      · skip
        refine lv_iconst (v := 0) hx hb dX6_isFirm_40 (by decide) ?_
        have hP9 := hP.sub (ws' := [(h0, Sum.inr (5, [Value.int (nI w), Value.int (nI h), Value.ref q1, Value.ref q2, Value.ref q3, Value.ref q4, Value.ref q5, Value.ref q6])), (q1, Sum.inl (cy1, 100, Sum.inl f1)), (q5, Sum.inl (cy5, 100, Sum.inl f5))]) [2, 0, 1] rfl
        have hD9 := hD.sub (ws' := [(h0, Sum.inr (5, [Value.int (nI w), Value.int (nI h), Value.ref q1, Value.ref q2, Value.ref q3, Value.ref q4, Value.ref q5, Value.ref q6])), (q1, Sum.inl (cy1, 100, Sum.inl f1)), (q5, Sum.inl (cy5, 100, Sum.inl f5))]) [2, 0, 1] (by decide) rfl
        have hK9 := hK.sub (tys' := []) [] rfl
        refine W.widen (k := 0) (n := 0) (by decide) (by decide) ?_
        exact W.zret (v := 0) hx hb hr rfl (fun t ht hW => ⟨⟨0, (), rfl, (by rw [hcl]; exact Or.inr ⟨rfl, fun q => c_13 (by rw [ev_12]; exact q.2.2)⟩), by rw [ht]; exact hP9, va_K.moved hW.alike hK9, hD9⟩, hS.F ht⟩) hS.2.2 dX6_isFirm_41
      · skip
        refine lv_iconst (v := 1) hx hb dX6_isFirm_36 (by decide) ?_
        refine lv_goto (tgt := 41) hx hb dX6_isFirm_37 (by decide) ?_
        have hP9 := hP.sub (ws' := [(h0, Sum.inr (5, [Value.int (nI w), Value.int (nI h), Value.ref q1, Value.ref q2, Value.ref q3, Value.ref q4, Value.ref q5, Value.ref q6])), (q1, Sum.inl (cy1, 100, Sum.inl f1)), (q5, Sum.inl (cy5, 100, Sum.inl f5))]) [2, 0, 1] rfl
        have hD9 := hD.sub (ws' := [(h0, Sum.inr (5, [Value.int (nI w), Value.int (nI h), Value.ref q1, Value.ref q2, Value.ref q3, Value.ref q4, Value.ref q5, Value.ref q6])), (q1, Sum.inl (cy1, 100, Sum.inl f1)), (q5, Sum.inl (cy5, 100, Sum.inl f5))]) [2, 0, 1] (by decide) rfl
        have hK9 := hK.sub (tys' := []) [] rfl
        refine W.widen (k := 0) (n := 0) (by decide) (by decide) ?_
        exact W.zret (v := 1) hx hb hr rfl (fun t ht hW => ⟨⟨1, (), rfl, (by rw [hcl]; exact Or.inl ⟨rfl, ho_3, by rw [← ev_10]; exact c_11, by rw [← ev_12]; exact c_13⟩), by rw [ht]; exact hP9, va_K.moved hW.alike hK9, hD9⟩, hS.F ht⟩) hS.2.2 dX6_isFirm_41
set_option maxHeartbeats 4000000 in
set_option maxRecDepth 100000 in
theorem s_isOpen (l : Launch) (D : va_G) (h0 : Nat) (w : Nat) (h : Nat) (q1 : Nat) (q2 : Nat) (q3 : Nat) (q4 : Nat) (q5 : Nat) (q6 : Nat) (cy1 : ClassId) (f1 : Nat → Int32) (cy4 : ClassId) (f4 : Nat → Int32) (cy5 : ClassId) (f5 : Nat → Int32) (x : Int32) (y : Int32) (h3 : w ≤ 10) (h4 : h ≤ 10) : cI l yX6_isOpen (.code yX6_isOpen cX6_isOpen 3 (some .boolean)) ({ frames := 2, cells := 0, slots := 0, locals := 45 }) D [(cy1, .int), (cy4, .int), (cy5, .boolean)] [(h0, Sum.inr (5, [Value.int (nI w), Value.int (nI h), Value.ref q1, Value.ref q2, Value.ref q3, Value.ref q4, Value.ref q5, Value.ref q6])), (q1, Sum.inl (cy1, 100, Sum.inl f1)), (q4, Sum.inl (cy4, 100, Sum.inl f4)), (q5, Sum.inl (cy5, 100, Sum.inl f5))] xT [Value.ref h0, Value.int x, Value.int y] (S := Unit) (fun r _ => (r = 1 ∧ (¬ (x < 0 ∨ ¬ x < nI w ∨ y < 0 ∨ ¬ y < nI h) ∧ 0 < f1 (cl x y) ∧ f5 (cl x y) = 0 ∧ f4 (cl x y) = (-1))) ∨ (r = 0 ∧ ¬ (¬ (x < 0 ∨ ¬ x < nI w ∨ y < 0 ∨ ¬ y < nI h) ∧ 0 < f1 (cl x y) ∧ f5 (cl x y) = 0 ∧ f4 (cl x y) = (-1)))) (fun _ => []) (fun _ => [(h0, Sum.inr (5, [Value.int (nI w), Value.int (nI h), Value.ref q1, Value.ref q2, Value.ref q3, Value.ref q4, Value.ref q5, Value.ref q6])), (q1, Sum.inl (cy1, 100, Sum.inl f1)), (q4, Sum.inl (cy4, 100, Sum.inl f4)), (q5, Sum.inl (cy5, 100, Sum.inl f5))]) := by
  intro sz
  refine Met.ofW (cc := cX6_isOpen) (maxL := 3) (ret := (some .boolean)) (by decide) rfl ?_
  intro p e s m args below meth c s₁ B hml hv
  obtain ⟨rfl, hsz, hP, hK, hD0, hX⟩ := hv
  have hx := B.exec
  have hb := B.bytes
  have hr := B.returns
  have hts0 := atoms_spec (ws := .code yX6_isOpen cX6_isOpen 3 (some .boolean) :: gw) B.pre
  have hts := fun (w : Cond) (h : w ∈ gw) => hts0 w (List.mem_cons_of_mem _ h)
  have hown : s.vm.findClass RX6 = some m.cls := findClass_of_methodNamed B.named
  have hlocks := B.notSynchronized
  have F : mFix p s m _ c cX6_isOpen 3 RX6 := ⟨hx, hb, hml, hown, hts⟩
  subst hsz
  have hD := hD0.self (sz := s.heap.size)
  generalize hAe : va_A [(h0, Sum.inr (5, [Value.int (nI w), Value.int (nI h), Value.ref q1, Value.ref q2, Value.ref q3, Value.ref q4, Value.ref q5, Value.ref q6])), (q1, Sum.inl (cy1, 100, Sum.inl f1)), (q4, Sum.inl (cy4, 100, Sum.inl f4)), (q5, Sum.inl (cy5, 100, Sum.inl f5))] s.heap.size = A at hD hX ⊢
  have hA : ∀ q : Nat, s.heap.size ≤ q → A q := fun q h => by rw [← hAe]; exact Or.inr h
  have hS : va_S A s.heap s.heap [] := va_S.rf
  have hl := lv_entry ([Value.ref h0, Value.int x, Value.int y]) (n := 3) (Nat.le_of_ble_eq_true rfl)
  rw [lg_entry_eq]
  generalize (lg_sl ([Value.ref h0, Value.int x, Value.int y]) ++ List.replicate (3 - (lg_sl ([Value.ref h0, Value.int x, Value.int y])).length) Slot.unset).toArray = ls at hl ⊢
  have hl : lv_has ls 3 [(0, Value.ref h0), (1, Value.int x), (2, Value.int y)] := hl
  have hP : va_P D vwCl [(h0, Sum.inr (5, [Value.int (nI w), Value.int (nI h), Value.ref q1, Value.ref q2, Value.ref q3, Value.ref q4, Value.ref q5, Value.ref q6])), (q1, Sum.inl (cy1, 100, Sum.inl f1)), (q4, Sum.inl (cy4, 100, Sum.inl f4)), (q5, Sum.inl (cy5, 100, Sum.inl f5))] s.heap := hP
  refine lv_aload_n hx hb dX6_isOpen_0 rfl (lv_at hl 0 rfl) ?_
  refine lv_iload_n hx hb dX6_isOpen_1 rfl (lv_at hl 1 rfl) ?_
  refine lv_iload_n hx hb dX6_isOpen_2 rfl (lv_at hl 2 rfl) ?_
  refine mc_Vi (rest := []) (wr := [(q4, Sum.inl (cy4, 100, Sum.inl f4))]) F hK hP hD hS hA (s_isFirm l D h0 w h q1 q2 q3 q4 q5 q6 cy1 f1 cy5 f5 x y (by omega) (by omega)) ⟨gk_X6_50.1, gk_X6_50.2, Nat.le_of_ble_eq_true rfl, Nat.le_of_ble_eq_true rfl⟩ [0, 1, 3] [2] [0, 2] ⟨rfl, rfl, rfl, rfl, by decide⟩ rfl xT_move (fun _ _ _ => trivial) 0 rfl rfl rfl hl.1 rfl (Nat.le_of_ble_eq_true rfl) dX6_isOpen_3 ⟨Nat.le_of_ble_eq_true rfl, Nat.le_of_ble_eq_true rfl⟩ (fun r_1 _ H locs hw hK1 hP hD hS => ?_)
  have hP : va_P D vwCl [(q4, Sum.inl (cy4, 100, Sum.inl f4)), (h0, Sum.inr (5, [Value.int (nI w), Value.int (nI h), Value.ref q1, Value.ref q2, Value.ref q3, Value.ref q4, Value.ref q5, Value.ref q6])), (q1, Sum.inl (cy1, 100, Sum.inl f1)), (q5, Sum.inl (cy5, 100, Sum.inl f5))] H := hP
  have hD : va_D A [(q4, Sum.inl (cy4, 100, Sum.inl f4)), (h0, Sum.inr (5, [Value.int (nI w), Value.int (nI h), Value.ref q1, Value.ref q2, Value.ref q3, Value.ref q4, Value.ref q5, Value.ref q6])), (q1, Sum.inl (cy1, 100, Sum.inl f1)), (q5, Sum.inl (cy5, 100, Sum.inl f5))] := hD
  have hw_2 : (r_1 = 1 ∧ (¬ (x < 0 ∨ ¬ x < nI w ∨ y < 0 ∨ ¬ y < nI h) ∧ 0 < f1 (cl x y) ∧ f5 (cl x y) = 0)) ∨ (r_1 = 0 ∧ ¬ (¬ (x < 0 ∨ ¬ x < nI w ∨ y < 0 ∨ ¬ y < nI h) ∧ 0 < f1 (cl x y) ∧ f5 (cl x y) = 0)) := hw
  rcases hw_2 with ⟨hr9, hf9⟩ | ⟨hr9, hf9⟩
  · skip
    subst hr9
    have ho9 := hf9.1
    obtain ⟨i_3, hi_3, ei_3⟩ : ∃ j : Nat, j < w ∧ x = nI j := n_lt (fun q => ho9 (Or.inl q)) (fun q => ho9 (Or.inr (Or.inl (Int32.not_lt.mpr q)))) (by omega)
    obtain ⟨j_4, hj_4, ej_4⟩ : ∃ j : Nat, j < h ∧ y = nI j := n_lt (fun q => ho9 (Or.inr (Or.inr (Or.inl q)))) (fun q => ho9 (Or.inr (Or.inr (Or.inr (Int32.not_lt.mpr q))))) (by omega)
    subst ei_3
    subst ej_4
    have hl : lv_has ls 3 [(0, Value.ref h0), (1, Value.int (nI i_3)), (2, Value.int (nI j_4))] := hl
    have hcl : cl (nI i_3) (nI j_4) = j_4 * 10 + i_3 := cl_nI (by omega) (by omega)
    refine lv_if_eq (tgt := 28) hx hb dX6_isOpen_6 (by decide) (fun c_5 => absurd c_5 (by decide)) (fun c_5 => ?_)
    refine lv_aload_n hx hb dX6_isOpen_9 rfl (lv_at hl 0 rfl) ?_
    refine va_get (D := D) (ci := 5) (v := Value.ref q4) (C := RX6) (T := TX6) (N := 8) hx hb hts inG_X6 hown hK hP 1 rfl rfl 5 (by decide) (hts _ kw_1_154) (fun _ h9 => h9) rfl dX6_isOpen_10 ?_
    refine lv_aload_n hx hb dX6_isOpen_13 rfl (lv_at hl 0 rfl) ?_
    refine lv_iload_n hx hb dX6_isOpen_14 rfl (lv_at hl 1 rfl) ?_
    refine lv_iload_n hx hb dX6_isOpen_15 rfl (lv_at hl 2 rfl) ?_
    refine mc_Vi (rest := [Value.ref q4]) (wr := [(q4, Sum.inl (cy4, 100, Sum.inl f4)), (q1, Sum.inl (cy1, 100, Sum.inl f1)), (q5, Sum.inl (cy5, 100, Sum.inl f5))]) F hK hP hD hS hA (c_spotOf l D h0 q1 q2 q3 q4 q5 q6 w h i_3 j_4 ) ⟨gk_X6_46.1, gk_X6_46.2, Nat.le_of_ble_eq_true rfl, Nat.le_of_ble_eq_true rfl⟩ [1] [0, 2, 3] [] ⟨rfl, rfl, rfl, rfl, by decide⟩ rfl xT_move (fun _ _ _ => trivial) 1 rfl rfl rfl hl.1 rfl (Nat.le_of_ble_eq_true rfl) dX6_isOpen_16 ⟨Nat.le_of_ble_eq_true rfl, Nat.le_of_ble_eq_true rfl⟩ (fun r_6 _ H locs hw hK1 hP hD hS => ?_)
    have hP : va_P D vwCl [(q4, Sum.inl (cy4, 100, Sum.inl f4)), (q1, Sum.inl (cy1, 100, Sum.inl f1)), (q5, Sum.inl (cy5, 100, Sum.inl f5)), (h0, Sum.inr (5, [Value.int (nI w), Value.int (nI h), Value.ref q1, Value.ref q2, Value.ref q3, Value.ref q4, Value.ref q5, Value.ref q6]))] H := hP
    have hD : va_D A [(q4, Sum.inl (cy4, 100, Sum.inl f4)), (q1, Sum.inl (cy1, 100, Sum.inl f1)), (q5, Sum.inl (cy5, 100, Sum.inl f5)), (h0, Sum.inr (5, [Value.int (nI w), Value.int (nI h), Value.ref q1, Value.ref q2, Value.ref q3, Value.ref q4, Value.ref q5, Value.ref q6]))] := hD
    have hw_7 : r_6 = nI (j_4 * 10 + i_3) := hw
    obtain rfl : r_6 = nI (j_4 * 10 + i_3) := hw_7
    refine m_iald hx hb hK hP 0 1 rfl rfl (j_4 * 10 + i_3) rfl (by omega) (by decide) dX6_isOpen_19 ?_
    refine lv_topi (fun v_8 ev_8 => ?_)
    refine lv_iconst (v := -1) hx hb dX6_isOpen_20 (by decide) ?_
    refine lv_icmp_ne (tgt := 28) hx hb dX6_isOpen_21 (by decide) (fun c_9 => ?_) (fun c_9 => ?_)
    · skip
      refine lv_iconst (v := 0) hx hb dX6_isOpen_28 (by decide) ?_
      have hP9 := hP.sub (ws' := [(h0, Sum.inr (5, [Value.int (nI w), Value.int (nI h), Value.ref q1, Value.ref q2, Value.ref q3, Value.ref q4, Value.ref q5, Value.ref q6])), (q1, Sum.inl (cy1, 100, Sum.inl f1)), (q4, Sum.inl (cy4, 100, Sum.inl f4)), (q5, Sum.inl (cy5, 100, Sum.inl f5))]) [3, 1, 0, 2] rfl
      have hD9 := hD.sub (ws' := [(h0, Sum.inr (5, [Value.int (nI w), Value.int (nI h), Value.ref q1, Value.ref q2, Value.ref q3, Value.ref q4, Value.ref q5, Value.ref q6])), (q1, Sum.inl (cy1, 100, Sum.inl f1)), (q4, Sum.inl (cy4, 100, Sum.inl f4)), (q5, Sum.inl (cy5, 100, Sum.inl f5))]) [3, 1, 0, 2] (by decide) rfl
      have hK9 := hK.sub (tys' := []) [] rfl
      refine W.widen (k := 0) (n := 0) (by decide) (by decide) ?_
      exact W.zret (v := 0) hx hb hr rfl (fun t ht hW => ⟨⟨0, (), rfl, (by rw [hcl]; exact Or.inr ⟨rfl, fun q => c_9 (by rw [ev_8]; exact q.2.2.2)⟩), by rw [ht]; exact hP9, va_K.moved hW.alike hK9, hD9⟩, hS.F ht⟩) hS.2.2 dX6_isOpen_29
    · skip
      refine lv_iconst (v := 1) hx hb dX6_isOpen_24 (by decide) ?_
      refine lv_goto (tgt := 29) hx hb dX6_isOpen_25 (by decide) ?_
      have hP9 := hP.sub (ws' := [(h0, Sum.inr (5, [Value.int (nI w), Value.int (nI h), Value.ref q1, Value.ref q2, Value.ref q3, Value.ref q4, Value.ref q5, Value.ref q6])), (q1, Sum.inl (cy1, 100, Sum.inl f1)), (q4, Sum.inl (cy4, 100, Sum.inl f4)), (q5, Sum.inl (cy5, 100, Sum.inl f5))]) [3, 1, 0, 2] rfl
      have hD9 := hD.sub (ws' := [(h0, Sum.inr (5, [Value.int (nI w), Value.int (nI h), Value.ref q1, Value.ref q2, Value.ref q3, Value.ref q4, Value.ref q5, Value.ref q6])), (q1, Sum.inl (cy1, 100, Sum.inl f1)), (q4, Sum.inl (cy4, 100, Sum.inl f4)), (q5, Sum.inl (cy5, 100, Sum.inl f5))]) [3, 1, 0, 2] (by decide) rfl
      have hK9 := hK.sub (tys' := []) [] rfl
      refine W.widen (k := 0) (n := 0) (by decide) (by decide) ?_
      exact W.zret (v := 1) hx hb hr rfl (fun t ht hW => ⟨⟨1, (), rfl, (by rw [hcl] at hf9 ⊢; exact Or.inl ⟨rfl, hf9.1, hf9.2.1, hf9.2.2, by rw [← ev_8]; exact c_9⟩), by rw [ht]; exact hP9, va_K.moved hW.alike hK9, hD9⟩, hS.F ht⟩) hS.2.2 dX6_isOpen_29
  · skip
    subst hr9
    refine lv_if_eq (tgt := 28) hx hb dX6_isOpen_6 (by decide) (fun c_10 => ?_) (fun c_10 => absurd c_10 (by decide))
    refine lv_iconst (v := 0) hx hb dX6_isOpen_28 (by decide) ?_
    have hP9 := hP.sub (ws' := [(h0, Sum.inr (5, [Value.int (nI w), Value.int (nI h), Value.ref q1, Value.ref q2, Value.ref q3, Value.ref q4, Value.ref q5, Value.ref q6])), (q1, Sum.inl (cy1, 100, Sum.inl f1)), (q4, Sum.inl (cy4, 100, Sum.inl f4)), (q5, Sum.inl (cy5, 100, Sum.inl f5))]) [1, 2, 0, 3] rfl
    have hD9 := hD.sub (ws' := [(h0, Sum.inr (5, [Value.int (nI w), Value.int (nI h), Value.ref q1, Value.ref q2, Value.ref q3, Value.ref q4, Value.ref q5, Value.ref q6])), (q1, Sum.inl (cy1, 100, Sum.inl f1)), (q4, Sum.inl (cy4, 100, Sum.inl f4)), (q5, Sum.inl (cy5, 100, Sum.inl f5))]) [1, 2, 0, 3] (by decide) rfl
    have hK9 := hK.sub (tys' := []) [] rfl
    refine W.widen (k := 0) (n := 0) (by decide) (by decide) ?_
    exact W.zret (v := 0) hx hb hr rfl (fun t ht hW => ⟨⟨0, (), rfl, Or.inr ⟨rfl, fun q => hf9 ⟨q.1, q.2.1, q.2.2.1⟩⟩, by rw [ht]; exact hP9, va_K.moved hW.alike hK9, hD9⟩, hS.F ht⟩) hS.2.2 dX6_isOpen_29
set_option maxHeartbeats 4000000 in
set_option maxRecDepth 100000 in
theorem s_guestAt (l : Launch) (D : va_G) (h0 : Nat) (w : Nat) (h : Nat) (q1 : Nat) (q2 : Nat) (q3 : Nat) (q4 : Nat) (q5 : Nat) (q6 : Nat) (cy4 : ClassId) (f4 : Nat → Int32) (x : Int32) (y : Int32) (h3 : w ≤ 10) (h4 : h ≤ 10) : cI l yX6_guestAt (.code yX6_guestAt cX6_guestAt 3 (some .int)) ({ frames := 1, cells := 0, slots := 0, locals := 22 }) D [(cy4, .int)] [(h0, Sum.inr (5, [Value.int (nI w), Value.int (nI h), Value.ref q1, Value.ref q2, Value.ref q3, Value.ref q4, Value.ref q5, Value.ref q6])), (q4, Sum.inl (cy4, 100, Sum.inl f4))] xT [Value.ref h0, Value.int x, Value.int y] (S := Unit) (fun r _ => r = (if (x < 0 ∨ ¬ x < nI w ∨ y < 0 ∨ ¬ y < nI h) then (-1) else f4 (cl x y))) (fun _ => []) (fun _ => [(h0, Sum.inr (5, [Value.int (nI w), Value.int (nI h), Value.ref q1, Value.ref q2, Value.ref q3, Value.ref q4, Value.ref q5, Value.ref q6])), (q4, Sum.inl (cy4, 100, Sum.inl f4))]) := by
  intro sz
  refine Met.ofW (cc := cX6_guestAt) (maxL := 3) (ret := (some .int)) (by decide) rfl ?_
  intro p e s m args below meth c s₁ B hml hv
  obtain ⟨rfl, hsz, hP, hK, hD0, hX⟩ := hv
  have hx := B.exec
  have hb := B.bytes
  have hr := B.returns
  have hts0 := atoms_spec (ws := .code yX6_guestAt cX6_guestAt 3 (some .int) :: gw) B.pre
  have hts := fun (w : Cond) (h : w ∈ gw) => hts0 w (List.mem_cons_of_mem _ h)
  have hown : s.vm.findClass RX6 = some m.cls := findClass_of_methodNamed B.named
  have hlocks := B.notSynchronized
  have F : mFix p s m _ c cX6_guestAt 3 RX6 := ⟨hx, hb, hml, hown, hts⟩
  subst hsz
  have hD := hD0.self (sz := s.heap.size)
  generalize hAe : va_A [(h0, Sum.inr (5, [Value.int (nI w), Value.int (nI h), Value.ref q1, Value.ref q2, Value.ref q3, Value.ref q4, Value.ref q5, Value.ref q6])), (q4, Sum.inl (cy4, 100, Sum.inl f4))] s.heap.size = A at hD hX ⊢
  have hA : ∀ q : Nat, s.heap.size ≤ q → A q := fun q h => by rw [← hAe]; exact Or.inr h
  have hS : va_S A s.heap s.heap [] := va_S.rf
  have hl := lv_entry ([Value.ref h0, Value.int x, Value.int y]) (n := 3) (Nat.le_of_ble_eq_true rfl)
  rw [lg_entry_eq]
  generalize (lg_sl ([Value.ref h0, Value.int x, Value.int y]) ++ List.replicate (3 - (lg_sl ([Value.ref h0, Value.int x, Value.int y])).length) Slot.unset).toArray = ls at hl ⊢
  have hl : lv_has ls 3 [(0, Value.ref h0), (1, Value.int x), (2, Value.int y)] := hl
  have hP : va_P D vwCl [(h0, Sum.inr (5, [Value.int (nI w), Value.int (nI h), Value.ref q1, Value.ref q2, Value.ref q3, Value.ref q4, Value.ref q5, Value.ref q6])), (q4, Sum.inl (cy4, 100, Sum.inl f4))] s.heap := hP
  refine lv_aload_n hx hb dX6_guestAt_0 rfl (lv_at hl 0 rfl) ?_
  refine lv_iload_n hx hb dX6_guestAt_1 rfl (lv_at hl 1 rfl) ?_
  refine lv_iload_n hx hb dX6_guestAt_2 rfl (lv_at hl 2 rfl) ?_
  refine mc_Vi (rest := []) (wr := [(q4, Sum.inl (cy4, 100, Sum.inl f4))]) F hK hP hD hS hA (c_has_any l D h0 q1 q2 q3 q4 q5 q6 w h x y (by omega) (by omega)) ⟨gk_X6_42.1, gk_X6_42.2, Nat.le_of_ble_eq_true rfl, Nat.le_of_ble_eq_true rfl⟩ [0] [1] [] ⟨rfl, rfl, rfl, rfl, by decide⟩ rfl xT_move (fun _ _ _ => trivial) 0 rfl rfl rfl hl.1 rfl (Nat.le_of_ble_eq_true rfl) dX6_guestAt_3 ⟨Nat.le_of_ble_eq_true rfl, Nat.le_of_ble_eq_true rfl⟩ (fun r_1 _ H locs hw hK1 hP hD hS => ?_)
  have hP : va_P D vwCl [(q4, Sum.inl (cy4, 100, Sum.inl f4)), (h0, Sum.inr (5, [Value.int (nI w), Value.int (nI h), Value.ref q1, Value.ref q2, Value.ref q3, Value.ref q4, Value.ref q5, Value.ref q6]))] H := hP
  have hD : va_D A [(q4, Sum.inl (cy4, 100, Sum.inl f4)), (h0, Sum.inr (5, [Value.int (nI w), Value.int (nI h), Value.ref q1, Value.ref q2, Value.ref q3, Value.ref q4, Value.ref q5, Value.ref q6]))] := hD
  have hw_2 : r_1 = (if (x < 0 ∨ ¬ x < nI w ∨ y < 0 ∨ ¬ y < nI h) then 0 else 1) := hw
  by_cases ho_3 : (x < 0 ∨ ¬ x < nI w ∨ y < 0 ∨ ¬ y < nI h)
  · skip
    obtain rfl : r_1 = 0 := by rw [hw_2, if_pos ho_3]
    have hzo := out_z (by omega) (by omega) ho_3
    refine lv_if_eq (tgt := 23) hx hb dX6_guestAt_6 (by decide) (fun c_4 => ?_) (fun c_4 => absurd c_4 (by decide))
    refine lv_iconst (v := -1) hx hb dX6_guestAt_23 (by decide) ?_
    have hP9 := hP.sub (ws' := [(h0, Sum.inr (5, [Value.int (nI w), Value.int (nI h), Value.ref q1, Value.ref q2, Value.ref q3, Value.ref q4, Value.ref q5, Value.ref q6])), (q4, Sum.inl (cy4, 100, Sum.inl f4))]) [1, 0] rfl
    have hD9 := hD.sub (ws' := [(h0, Sum.inr (5, [Value.int (nI w), Value.int (nI h), Value.ref q1, Value.ref q2, Value.ref q3, Value.ref q4, Value.ref q5, Value.ref q6])), (q4, Sum.inl (cy4, 100, Sum.inl f4))]) [1, 0] (by decide) rfl
    have hK9 := hK.sub (tys' := []) [] rfl
    refine W.widen (k := 0) (n := 0) (by decide) (by decide) ?_
    exact W.iret (v := (-1)) hx hb hr (fun t ht hW => ⟨⟨((-1)), (), rfl, (if_pos ho_3).symm, by rw [ht]; exact hP9, va_K.moved hW.alike hK9, hD9⟩, hS.F ht⟩) hS.2.2 dX6_guestAt_24
  · skip
    obtain rfl : r_1 = 1 := by rw [hw_2, if_neg ho_3]
    obtain ⟨i_5, hi_5, ei_5⟩ : ∃ j : Nat, j < w ∧ x = nI j := n_lt (fun q => ho_3 (Or.inl q)) (fun q => ho_3 (Or.inr (Or.inl (Int32.not_lt.mpr q)))) (by omega)
    obtain ⟨j_6, hj_6, ej_6⟩ : ∃ j : Nat, j < h ∧ y = nI j := n_lt (fun q => ho_3 (Or.inr (Or.inr (Or.inl q)))) (fun q => ho_3 (Or.inr (Or.inr (Or.inr (Int32.not_lt.mpr q))))) (by omega)
    have hzi_5 := in_z ei_5 (by omega)
    have hzj_6 := in_z ej_6 (by omega)
    subst ei_5
    subst ej_6
    have hcl : cl (nI i_5) (nI j_6) = j_6 * 10 + i_5 := cl_nI (by omega) (by omega)
    have hl : lv_has ls 3 [(0, Value.ref h0), (1, Value.int (nI i_5)), (2, Value.int (nI j_6))] := hl
    refine lv_if_eq (tgt := 23) hx hb dX6_guestAt_6 (by decide) (fun c_7 => absurd c_7 (by decide)) (fun c_7 => ?_)
    refine lv_aload_n hx hb dX6_guestAt_9 rfl (lv_at hl 0 rfl) ?_
    refine va_get (D := D) (ci := 5) (v := Value.ref q4) (C := RX6) (T := TX6) (N := 8) hx hb hts inG_X6 hown hK hP 1 rfl rfl 5 (by decide) (hts _ kw_1_154) (fun _ h9 => h9) rfl dX6_guestAt_10 ?_
    refine lv_aload_n hx hb dX6_guestAt_13 rfl (lv_at hl 0 rfl) ?_
    refine lv_iload_n hx hb dX6_guestAt_14 rfl (lv_at hl 1 rfl) ?_
    refine lv_iload_n hx hb dX6_guestAt_15 rfl (lv_at hl 2 rfl) ?_
    refine mc_Vi (rest := [Value.ref q4]) (wr := [(q4, Sum.inl (cy4, 100, Sum.inl f4))]) F hK hP hD hS hA (c_spotOf l D h0 q1 q2 q3 q4 q5 q6 w h i_5 j_6 ) ⟨gk_X6_46.1, gk_X6_46.2, Nat.le_of_ble_eq_true rfl, Nat.le_of_ble_eq_true rfl⟩ [1] [0] [] ⟨rfl, rfl, rfl, rfl, by decide⟩ rfl xT_move (fun _ _ _ => trivial) 1 rfl rfl rfl hl.1 rfl (Nat.le_of_ble_eq_true rfl) dX6_guestAt_16 ⟨Nat.le_of_ble_eq_true rfl, Nat.le_of_ble_eq_true rfl⟩ (fun r_8 _ H locs hw hK1 hP hD hS => ?_)
    have hP : va_P D vwCl [(q4, Sum.inl (cy4, 100, Sum.inl f4)), (h0, Sum.inr (5, [Value.int (nI w), Value.int (nI h), Value.ref q1, Value.ref q2, Value.ref q3, Value.ref q4, Value.ref q5, Value.ref q6]))] H := hP
    have hD : va_D A [(q4, Sum.inl (cy4, 100, Sum.inl f4)), (h0, Sum.inr (5, [Value.int (nI w), Value.int (nI h), Value.ref q1, Value.ref q2, Value.ref q3, Value.ref q4, Value.ref q5, Value.ref q6]))] := hD
    have hw_9 : r_8 = nI (j_6 * 10 + i_5) := hw
    obtain rfl : r_8 = nI (j_6 * 10 + i_5) := hw_9
    refine m_iald hx hb hK hP 0 0 rfl rfl (j_6 * 10 + i_5) rfl (by omega) (by decide) dX6_guestAt_19 ?_
    refine lv_topi (fun v_10 ev_10 => ?_)
    refine lv_goto (tgt := 24) hx hb dX6_guestAt_20 (by decide) ?_
    have hP9 := hP.sub (ws' := [(h0, Sum.inr (5, [Value.int (nI w), Value.int (nI h), Value.ref q1, Value.ref q2, Value.ref q3, Value.ref q4, Value.ref q5, Value.ref q6])), (q4, Sum.inl (cy4, 100, Sum.inl f4))]) [1, 0] rfl
    have hD9 := hD.sub (ws' := [(h0, Sum.inr (5, [Value.int (nI w), Value.int (nI h), Value.ref q1, Value.ref q2, Value.ref q3, Value.ref q4, Value.ref q5, Value.ref q6])), (q4, Sum.inl (cy4, 100, Sum.inl f4))]) [1, 0] (by decide) rfl
    have hK9 := hK.sub (tys' := []) [] rfl
    refine W.widen (k := 0) (n := 0) (by decide) (by decide) ?_
    exact W.iret (v := v_10) hx hb hr (fun t ht hW => ⟨⟨v_10, (), rfl, (by rw [if_neg ho_3, hcl]; exact ev_10), by rw [ht]; exact hP9, va_K.moved hW.alike hK9, hD9⟩, hS.F ht⟩) hS.2.2 dX6_guestAt_24
set_option maxHeartbeats 4000000 in
set_option maxRecDepth 100000 in
theorem s_thicken (l : Launch) (D : va_G) (h0 : Nat) (w : Nat) (h : Nat) (q1 : Nat) (q2 : Nat) (q3 : Nat) (q4 : Nat) (q5 : Nat) (q6 : Nat) (cy1 : ClassId) (f1 : Nat → Int32) (cy2 : ClassId) (f2 : Nat → Int32) (i : Nat) (j : Nat) (ch : Int32) (h3 : w ≤ 10) (h4 : h ≤ 10) (h1 : i < w) (h2 : j < h) : cV l yX6_thicken (.code yX6_thicken cX6_thicken 5 none) ({ frames := 2, cells := 0, slots := 0, locals := 80 }) D [(cy1, .int), (cy2, .int)] [(h0, Sum.inr (5, [Value.int (nI w), Value.int (nI h), Value.ref q1, Value.ref q2, Value.ref q3, Value.ref q4, Value.ref q5, Value.ref q6])), (q1, Sum.inl (cy1, 100, Sum.inl f1)), (q2, Sum.inl (cy2, 100, Sum.inl f2))] xT [Value.ref h0, Value.int (nI i), Value.int (nI j), Value.int ch] (S := (Nat → Int32) × (Nat → Int32)) (fun u => match u with | (g1, g2) => g1 = upd f1 (j * 10 + i) (wbI (f1 (j * 10 + i) + ch)) ∧ g2 = upd f2 (j * 10 + i) (wbI (f2 (j * 10 + i) + ch))) (fun u => match u with | (g1, g2) => []) (fun u => match u with | (g1, g2) => [(h0, Sum.inr (5, [Value.int (nI w), Value.int (nI h), Value.ref q1, Value.ref q2, Value.ref q3, Value.ref q4, Value.ref q5, Value.ref q6])), (q1, Sum.inl (cy1, 100, Sum.inl g1)), (q2, Sum.inl (cy2, 100, Sum.inl g2))]) := by
  intro sz
  refine Met.ofW (cc := cX6_thicken) (maxL := 5) (ret := none) (by decide) rfl ?_
  intro p e s m args below meth c s₁ B hml hv
  obtain ⟨rfl, hsz, hP, hK, hD0, hX⟩ := hv
  have hx := B.exec
  have hb := B.bytes
  have hr := B.returns
  have hts0 := atoms_spec (ws := .code yX6_thicken cX6_thicken 5 none :: gw) B.pre
  have hts := fun (w : Cond) (h : w ∈ gw) => hts0 w (List.mem_cons_of_mem _ h)
  have hown : s.vm.findClass RX6 = some m.cls := findClass_of_methodNamed B.named
  have hlocks := B.notSynchronized
  have F : mFix p s m _ c cX6_thicken 5 RX6 := ⟨hx, hb, hml, hown, hts⟩
  subst hsz
  have hD := hD0.self (sz := s.heap.size)
  generalize hAe : va_A [(h0, Sum.inr (5, [Value.int (nI w), Value.int (nI h), Value.ref q1, Value.ref q2, Value.ref q3, Value.ref q4, Value.ref q5, Value.ref q6])), (q1, Sum.inl (cy1, 100, Sum.inl f1)), (q2, Sum.inl (cy2, 100, Sum.inl f2))] s.heap.size = A at hD hX ⊢
  have hA : ∀ q : Nat, s.heap.size ≤ q → A q := fun q h => by rw [← hAe]; exact Or.inr h
  have hS : va_S A s.heap s.heap [] := va_S.rf
  have hl := lv_entry ([Value.ref h0, Value.int (nI i), Value.int (nI j), Value.int ch]) (n := 5) (Nat.le_of_ble_eq_true rfl)
  rw [lg_entry_eq]
  generalize (lg_sl ([Value.ref h0, Value.int (nI i), Value.int (nI j), Value.int ch]) ++ List.replicate (5 - (lg_sl ([Value.ref h0, Value.int (nI i), Value.int (nI j), Value.int ch])).length) Slot.unset).toArray = ls at hl ⊢
  have hl : lv_has ls 5 [(0, Value.ref h0), (1, Value.int (nI i)), (2, Value.int (nI j)), (3, Value.int ch)] := hl
  have hP : va_P D vwCl [(h0, Sum.inr (5, [Value.int (nI w), Value.int (nI h), Value.ref q1, Value.ref q2, Value.ref q3, Value.ref q4, Value.ref q5, Value.ref q6])), (q1, Sum.inl (cy1, 100, Sum.inl f1)), (q2, Sum.inl (cy2, 100, Sum.inl f2))] s.heap := hP
  refine lv_aload_n hx hb dX6_thicken_0 rfl (lv_at hl 0 rfl) ?_
  refine lv_iload_n hx hb dX6_thicken_1 rfl (lv_at hl 1 rfl) ?_
  refine lv_iload_n hx hb dX6_thicken_2 rfl (lv_at hl 2 rfl) ?_
  refine mc_Vi (rest := []) (wr := [(q1, Sum.inl (cy1, 100, Sum.inl f1)), (q2, Sum.inl (cy2, 100, Sum.inl f2))]) F hK hP hD hS hA (c_has_in l D h0 q1 q2 q3 q4 q5 q6 w h i j (by omega) (by omega) (by omega) (by omega)) ⟨gk_X6_42.1, gk_X6_42.2, Nat.le_of_ble_eq_true rfl, Nat.le_of_ble_eq_true rfl⟩ [0] [1, 2] [] ⟨rfl, rfl, rfl, rfl, by decide⟩ rfl xT_move (fun _ _ _ => trivial) 0 rfl rfl rfl hl.1 rfl (Nat.le_of_ble_eq_true rfl) dX6_thicken_3 ⟨Nat.le_of_ble_eq_true rfl, Nat.le_of_ble_eq_true rfl⟩ (fun r_1 _ H locs hw hK1 hP hD hS => ?_)
  have hP : va_P D vwCl [(q1, Sum.inl (cy1, 100, Sum.inl f1)), (q2, Sum.inl (cy2, 100, Sum.inl f2)), (h0, Sum.inr (5, [Value.int (nI w), Value.int (nI h), Value.ref q1, Value.ref q2, Value.ref q3, Value.ref q4, Value.ref q5, Value.ref q6]))] H := hP
  have hD : va_D A [(q1, Sum.inl (cy1, 100, Sum.inl f1)), (q2, Sum.inl (cy2, 100, Sum.inl f2)), (h0, Sum.inr (5, [Value.int (nI w), Value.int (nI h), Value.ref q1, Value.ref q2, Value.ref q3, Value.ref q4, Value.ref q5, Value.ref q6]))] := hD
  have hw_2 : r_1 = 1 := hw
  obtain rfl : r_1 = 1 := hw_2
  refine lv_if_eq (tgt := 47) hx hb dX6_thicken_6 (by decide) (fun c_3 => absurd c_3 (by decide)) (fun c_3 => ?_)
  refine lv_aload_n hx hb dX6_thicken_9 rfl (lv_at hl 0 rfl) ?_
  refine lv_iload_n hx hb dX6_thicken_10 rfl (lv_at hl 1 rfl) ?_
  refine lv_iload_n hx hb dX6_thicken_11 rfl (lv_at hl 2 rfl) ?_
  refine mc_Vi (rest := []) (wr := [(q1, Sum.inl (cy1, 100, Sum.inl f1)), (q2, Sum.inl (cy2, 100, Sum.inl f2))]) F hK hP hD hS hA (c_spotOf l D h0 q1 q2 q3 q4 q5 q6 w h i j ) ⟨gk_X6_46.1, gk_X6_46.2, Nat.le_of_ble_eq_true rfl, Nat.le_of_ble_eq_true rfl⟩ [2] [0, 1] [] ⟨rfl, rfl, rfl, rfl, by decide⟩ rfl xT_move (fun _ _ _ => trivial) 2 rfl rfl rfl hl.1 rfl (Nat.le_of_ble_eq_true rfl) dX6_thicken_12 ⟨Nat.le_of_ble_eq_true rfl, Nat.le_of_ble_eq_true rfl⟩ (fun r_4 _ H locs hw hK1 hP hD hS => ?_)
  have hP : va_P D vwCl [(q1, Sum.inl (cy1, 100, Sum.inl f1)), (q2, Sum.inl (cy2, 100, Sum.inl f2)), (h0, Sum.inr (5, [Value.int (nI w), Value.int (nI h), Value.ref q1, Value.ref q2, Value.ref q3, Value.ref q4, Value.ref q5, Value.ref q6]))] H := hP
  have hD : va_D A [(q1, Sum.inl (cy1, 100, Sum.inl f1)), (q2, Sum.inl (cy2, 100, Sum.inl f2)), (h0, Sum.inr (5, [Value.int (nI w), Value.int (nI h), Value.ref q1, Value.ref q2, Value.ref q3, Value.ref q4, Value.ref q5, Value.ref q6]))] := hD
  have hw_5 : r_4 = nI (j * 10 + i) := hw
  obtain rfl : r_4 = nI (j * 10 + i) := hw_5
  refine lv_istore (lv' := [(4, Value.int (nI (j * 10 + i))), (0, Value.ref h0), (1, Value.int (nI i)), (2, Value.int (nI j)), (3, Value.int ch)]) hx hb dX6_thicken_15 hl (by decide) rfl (fun ls hl => ?_)
  refine lv_aload_n hx hb dX6_thicken_17 rfl (lv_at hl 1 rfl) ?_
  refine lv_iload_n hx hb dX6_thicken_18 rfl (lv_at hl 2 rfl) ?_
  refine lv_iload_n hx hb dX6_thicken_19 rfl (lv_at hl 3 rfl) ?_
  refine lv_aload_n hx hb dX6_thicken_20 rfl (lv_at hl 1 rfl) ?_
  refine va_get (D := D) (ci := 5) (v := Value.ref q1) (C := RX6) (T := TX6) (N := 8) hx hb hts inG_X6 hown hK hP 2 rfl rfl 2 (by decide) (hts _ kw_1_148) (fun _ h9 => h9) rfl dX6_thicken_21 ?_
  refine lv_iload hx hb dX6_thicken_24 (lv_at hl 0 rfl) ?_
  refine m_iald hx hb hK hP 0 0 rfl rfl (j * 10 + i) rfl (by omega) (by decide) dX6_thicken_26 ?_
  refine lv_topi (fun v_6 ev_6 => ?_)
  refine lv_iload_n hx hb dX6_thicken_27 rfl (lv_at hl 4 rfl) ?_
  refine lv_iadd hx hb dX6_thicken_28 ?_
  refine lv_topi (fun z_7 ez_7 => ?_)
  refine mc_Si (rest := [Value.int (nI j), Value.int (nI i), Value.ref h0]) (wr := [(q1, Sum.inl (cy1, 100, Sum.inl f1)), (q2, Sum.inl (cy2, 100, Sum.inl f2)), (h0, Sum.inr (5, [Value.int (nI w), Value.int (nI h), Value.ref q1, Value.ref q2, Value.ref q3, Value.ref q4, Value.ref q5, Value.ref q6]))]) F hK hP hD hS hA (c_within l D z_7 ) ⟨gk_X6_53.1, gk_X6_53.2, Nat.le_of_ble_eq_true rfl, Nat.le_of_ble_eq_true rfl⟩ [] [0, 1, 2] [] ⟨rfl, rfl, rfl, rfl, by decide⟩ rfl xT_move (fun _ _ _ => trivial) rfl hl.1 rfl (Nat.le_of_ble_eq_true rfl) dX6_thicken_29 ⟨Nat.le_of_ble_eq_true rfl, Nat.le_of_ble_eq_true rfl⟩ (fun r_8 _ H locs hw hK1 hP hD hS => ?_)
  have hP : va_P D vwCl [(q1, Sum.inl (cy1, 100, Sum.inl f1)), (q2, Sum.inl (cy2, 100, Sum.inl f2)), (h0, Sum.inr (5, [Value.int (nI w), Value.int (nI h), Value.ref q1, Value.ref q2, Value.ref q3, Value.ref q4, Value.ref q5, Value.ref q6]))] H := hP
  have hD : va_D A [(q1, Sum.inl (cy1, 100, Sum.inl f1)), (q2, Sum.inl (cy2, 100, Sum.inl f2)), (h0, Sum.inr (5, [Value.int (nI w), Value.int (nI h), Value.ref q1, Value.ref q2, Value.ref q3, Value.ref q4, Value.ref q5, Value.ref q6]))] := hD
  have hw_9 : r_8 = (if 0 < (if z_7 < 99 then z_7 else 99) then (if z_7 < 99 then z_7 else 99) else 0) := hw
  refine lv_aload_n hx hb dX6_thicken_32 rfl (lv_at hl 1 rfl) ?_
  refine va_get (D := D) (ci := 5) (v := Value.ref q2) (C := RX6) (T := TX6) (N := 8) hx hb hts inG_X6 hown hK hP 2 rfl rfl 3 (by decide) (hts _ kw_1_150) (fun _ h9 => h9) rfl dX6_thicken_33 ?_
  refine lv_iload hx hb dX6_thicken_36 (lv_at hl 0 rfl) ?_
  refine m_iald hx hb hK hP 1 1 rfl rfl (j * 10 + i) rfl (by omega) (by decide) dX6_thicken_38 ?_
  refine lv_topi (fun v_10 ev_10 => ?_)
  refine lv_iload_n hx hb dX6_thicken_39 rfl (lv_at hl 4 rfl) ?_
  refine lv_iadd hx hb dX6_thicken_40 ?_
  refine lv_topi (fun z_11 ez_11 => ?_)
  refine mc_Si (rest := [Value.int r_8, Value.int (nI j), Value.int (nI i), Value.ref h0]) (wr := [(q1, Sum.inl (cy1, 100, Sum.inl f1)), (q2, Sum.inl (cy2, 100, Sum.inl f2)), (h0, Sum.inr (5, [Value.int (nI w), Value.int (nI h), Value.ref q1, Value.ref q2, Value.ref q3, Value.ref q4, Value.ref q5, Value.ref q6]))]) F hK hP hD hS hA (c_within l D z_11 ) ⟨gk_X6_53.1, gk_X6_53.2, Nat.le_of_ble_eq_true rfl, Nat.le_of_ble_eq_true rfl⟩ [] [0, 1, 2] [] ⟨rfl, rfl, rfl, rfl, by decide⟩ rfl xT_move (fun _ _ _ => trivial) rfl hl.1 rfl (Nat.le_of_ble_eq_true rfl) dX6_thicken_41 ⟨Nat.le_of_ble_eq_true rfl, Nat.le_of_ble_eq_true rfl⟩ (fun r_12 _ H locs hw hK1 hP hD hS => ?_)
  have hP : va_P D vwCl [(q1, Sum.inl (cy1, 100, Sum.inl f1)), (q2, Sum.inl (cy2, 100, Sum.inl f2)), (h0, Sum.inr (5, [Value.int (nI w), Value.int (nI h), Value.ref q1, Value.ref q2, Value.ref q3, Value.ref q4, Value.ref q5, Value.ref q6]))] H := hP
  have hD : va_D A [(q1, Sum.inl (cy1, 100, Sum.inl f1)), (q2, Sum.inl (cy2, 100, Sum.inl f2)), (h0, Sum.inr (5, [Value.int (nI w), Value.int (nI h), Value.ref q1, Value.ref q2, Value.ref q3, Value.ref q4, Value.ref q5, Value.ref q6]))] := hD
  have hw_13 : r_12 = (if 0 < (if z_11 < 99 then z_11 else 99) then (if z_11 < 99 then z_11 else 99) else 0) := hw
  refine mc_Vv (rest := []) (wr := []) F hK hP hD hS hA (c_makeThick l D h0 q1 q2 q3 q4 q5 q6 cy1 cy2 f1 f2 w h i j r_8 r_12 (by omega) (by omega) (by omega) (by omega) (by omega) (by omega)) ⟨gk_X6_57.1, gk_X6_57.2, Nat.le_of_ble_eq_true rfl, Nat.le_of_ble_eq_true rfl⟩ [2, 0, 1] [] [0, 1] ⟨rfl, rfl, rfl, rfl, by decide⟩ rfl xT_move (fun _ _ _ => trivial) 2 rfl rfl rfl hl.1 rfl (Nat.le_of_ble_eq_true rfl) dX6_thicken_44 ⟨Nat.le_of_ble_eq_true rfl, Nat.le_of_ble_eq_true rfl⟩ (fun u H locs hw hK1 hP hD hS => ?_)
  obtain ⟨g1_14, g2_15⟩ := u
  have hP : va_P D vwCl [(h0, Sum.inr (5, [Value.int (nI w), Value.int (nI h), Value.ref q1, Value.ref q2, Value.ref q3, Value.ref q4, Value.ref q5, Value.ref q6])), (q1, Sum.inl (cy1, 100, Sum.inl g1_14)), (q2, Sum.inl (cy2, 100, Sum.inl g2_15))] H := hP
  have hD : va_D A [(h0, Sum.inr (5, [Value.int (nI w), Value.int (nI h), Value.ref q1, Value.ref q2, Value.ref q3, Value.ref q4, Value.ref q5, Value.ref q6])), (q1, Sum.inl (cy1, 100, Sum.inl g1_14)), (q2, Sum.inl (cy2, 100, Sum.inl g2_15))] := hD
  have hw_17 : g1_14 = upd f1 (j * 10 + i) r_8 ∧ g2_15 = upd f2 (j * 10 + i) r_12 := hw
  have hP9 := hP.sub (ws' := [(h0, Sum.inr (5, [Value.int (nI w), Value.int (nI h), Value.ref q1, Value.ref q2, Value.ref q3, Value.ref q4, Value.ref q5, Value.ref q6])), (q1, Sum.inl (cy1, 100, Sum.inl g1_14)), (q2, Sum.inl (cy2, 100, Sum.inl g2_15))]) [0, 1, 2] rfl
  have hD9 := hD.sub (ws' := [(h0, Sum.inr (5, [Value.int (nI w), Value.int (nI h), Value.ref q1, Value.ref q2, Value.ref q3, Value.ref q4, Value.ref q5, Value.ref q6])), (q1, Sum.inl (cy1, 100, Sum.inl g1_14)), (q2, Sum.inl (cy2, 100, Sum.inl g2_15))]) [0, 1, 2] (by decide) rfl
  have hK9 := hK.sub (tys' := []) [] rfl
  refine W.widen (k := 0) (n := 0) (by decide) (by decide) ?_
  exact W.vret hx hb hr (fun t ht hW => ⟨⟨(g1_14, g2_15), rfl, ⟨by rw [hw_17.1, hw_9, ez_7, ev_6]; rfl, by rw [hw_17.2, hw_13, ez_11, ev_10]; rfl⟩, by rw [ht]; exact hP9, va_K.moved hW.alike hK9, hD9⟩, hS.F ht⟩) hS.2.2 dX6_thicken_47
set_option maxHeartbeats 4000000 in
set_option maxRecDepth 100000 in
theorem s_share (l : Launch) (D : va_G) (x : Int32) (y : Int32) : cI l yX6_share (.code yX6_share cX6_share 2 (some .int)) ({ frames := 0, cells := 0, slots := 0, locals := 0 }) D [] [] xT [Value.int x, Value.int y] (S := Unit) (fun r _ => r = (if x = 0 then (2 : Int32) else 1) * (if y = 0 then 2 else 1)) (fun _ => []) (fun _ => []) := by
  intro sz
  refine Met.ofW (cc := cX6_share) (maxL := 2) (ret := (some .int)) (by decide) rfl ?_
  intro p e s m args below meth c s₁ B hml hv
  obtain ⟨rfl, hsz, hP, hK, hD0, hX⟩ := hv
  have hx := B.exec
  have hb := B.bytes
  have hr := B.returns
  have hts0 := atoms_spec (ws := .code yX6_share cX6_share 2 (some .int) :: gw) B.pre
  have hts := fun (w : Cond) (h : w ∈ gw) => hts0 w (List.mem_cons_of_mem _ h)
  have hown : s.vm.findClass RX6 = some m.cls := findClass_of_methodNamed B.named
  have hlocks := B.notSynchronized
  have F : mFix p s m _ c cX6_share 2 RX6 := ⟨hx, hb, hml, hown, hts⟩
  subst hsz
  have hD := hD0.self (sz := s.heap.size)
  generalize hAe : va_A [] s.heap.size = A at hD hX ⊢
  have hA : ∀ q : Nat, s.heap.size ≤ q → A q := fun q h => by rw [← hAe]; exact Or.inr h
  have hS : va_S A s.heap s.heap [] := va_S.rf
  have hl := lv_entry ([Value.int x, Value.int y]) (n := 2) (Nat.le_of_ble_eq_true rfl)
  rw [lg_entry_eq]
  generalize (lg_sl ([Value.int x, Value.int y]) ++ List.replicate (2 - (lg_sl ([Value.int x, Value.int y])).length) Slot.unset).toArray = ls at hl ⊢
  have hl : lv_has ls 2 [(0, Value.int x), (1, Value.int y)] := hl
  have hP : va_P D vwCl [] s.heap := hP
  refine lv_iload_n hx hb dX6_share_0 rfl (lv_at hl 0 rfl) ?_
  refine lv_if_ne (tgt := 8) hx hb dX6_share_1 (by decide) (fun c_1 => ?_) (fun c_1 => ?_)
  · skip
    refine lv_iconst (v := 1) hx hb dX6_share_8 (by decide) ?_
    refine lv_iload_n hx hb dX6_share_9 rfl (lv_at hl 1 rfl) ?_
    refine lv_if_ne (tgt := 17) hx hb dX6_share_10 (by decide) (fun c_2 => ?_) (fun c_2 => ?_)
    · skip
      refine lv_iconst (v := 1) hx hb dX6_share_17 (by decide) ?_
      refine lv_imul hx hb dX6_share_18 ?_
      refine lv_topi (fun z_3 ez_3 => ?_)
      obtain rfl : z_3 = (1 : Int32) := ez_3.trans (by decide)
      have hP9 := hP.sub (ws' := []) [] rfl
      have hD9 := hD.sub (ws' := []) [] (by decide) rfl
      have hK9 := hK.sub (tys' := []) [] rfl
      refine W.widen (k := 0) (n := 0) (by decide) (by decide) ?_
      exact W.iret (v := 1) hx hb hr (fun t ht hW => ⟨⟨1, (), rfl, (by rw [if_neg c_1, if_neg c_2]; rfl), by rw [ht]; exact hP9, va_K.moved hW.alike hK9, hD9⟩, hS.F ht⟩) hS.2.2 dX6_share_19
    · skip
      refine lv_iconst (v := 2) hx hb dX6_share_13 (by decide) ?_
      refine lv_goto (tgt := 18) hx hb dX6_share_14 (by decide) ?_
      refine lv_imul hx hb dX6_share_18 ?_
      refine lv_topi (fun z_4 ez_4 => ?_)
      obtain rfl : z_4 = (2 : Int32) := ez_4.trans (by decide)
      have hP9 := hP.sub (ws' := []) [] rfl
      have hD9 := hD.sub (ws' := []) [] (by decide) rfl
      have hK9 := hK.sub (tys' := []) [] rfl
      refine W.widen (k := 0) (n := 0) (by decide) (by decide) ?_
      exact W.iret (v := 2) hx hb hr (fun t ht hW => ⟨⟨2, (), rfl, (by rw [if_neg c_1, if_pos c_2]; rfl), by rw [ht]; exact hP9, va_K.moved hW.alike hK9, hD9⟩, hS.F ht⟩) hS.2.2 dX6_share_19
  · skip
    refine lv_iconst (v := 2) hx hb dX6_share_4 (by decide) ?_
    refine lv_goto (tgt := 9) hx hb dX6_share_5 (by decide) ?_
    refine lv_iload_n hx hb dX6_share_9 rfl (lv_at hl 1 rfl) ?_
    refine lv_if_ne (tgt := 17) hx hb dX6_share_10 (by decide) (fun c_5 => ?_) (fun c_5 => ?_)
    · skip
      refine lv_iconst (v := 1) hx hb dX6_share_17 (by decide) ?_
      refine lv_imul hx hb dX6_share_18 ?_
      refine lv_topi (fun z_6 ez_6 => ?_)
      obtain rfl : z_6 = (2 : Int32) := ez_6.trans (by decide)
      have hP9 := hP.sub (ws' := []) [] rfl
      have hD9 := hD.sub (ws' := []) [] (by decide) rfl
      have hK9 := hK.sub (tys' := []) [] rfl
      refine W.widen (k := 0) (n := 0) (by decide) (by decide) ?_
      exact W.iret (v := 2) hx hb hr (fun t ht hW => ⟨⟨2, (), rfl, (by rw [if_pos c_1, if_neg c_5]; rfl), by rw [ht]; exact hP9, va_K.moved hW.alike hK9, hD9⟩, hS.F ht⟩) hS.2.2 dX6_share_19
    · skip
      refine lv_iconst (v := 2) hx hb dX6_share_13 (by decide) ?_
      refine lv_goto (tgt := 18) hx hb dX6_share_14 (by decide) ?_
      refine lv_imul hx hb dX6_share_18 ?_
      refine lv_topi (fun z_7 ez_7 => ?_)
      obtain rfl : z_7 = (4 : Int32) := ez_7.trans (by decide)
      have hP9 := hP.sub (ws' := []) [] rfl
      have hD9 := hD.sub (ws' := []) [] (by decide) rfl
      have hK9 := hK.sub (tys' := []) [] rfl
      refine W.widen (k := 0) (n := 0) (by decide) (by decide) ?_
      exact W.iret (v := 4) hx hb hr (fun t ht hW => ⟨⟨4, (), rfl, (by rw [if_pos c_1, if_pos c_5]; rfl), by rw [ht]; exact hP9, va_K.moved hW.alike hK9, hD9⟩, hS.F ht⟩) hS.2.2 dX6_share_19
set_option maxHeartbeats 4000000 in
set_option maxRecDepth 100000 in
theorem lp_s_load_in {p : Program} {l : Launch} {e : Env} {s : State} {m : MethodId} {args : Array Value} {below : List Frame} {meth : Method} {c : Code} {Q : State → Prop} {A : Nat → Prop} {D : va_G} (F : mFix p s m args c cX6_load 6 RX6) (hA : ∀ q, s.heap.size ≤ q → A q) (h0 : Nat) (w : Nat) (h : Nat) (q1 : Nat) (q2 : Nat) (q3 : Nat) (q4 : Nat) (q5 : Nat) (q6 : Nat) (cy3 : ClassId) (i : Nat) (j : Nat) (wt : Int32) (dy : Int32) (f3 : Nat → Int32) (t : Nat) (hK : va_K D vwCl [(cy3, .int)] s)
    (kx_68 : ∀ (g3 : Nat → Int32), (∀ c, c % 10 < w → c / 10 < h → g3 c = f3 c + wt * nI (plN i j c (3 * t + 3))) → ∀ (H : Heap) (locs : List Loc), va_P D vwCl [(h0, Sum.inr (5, [Value.int (nI w), Value.int (nI h), Value.ref q1, Value.ref q2, Value.ref q3, Value.ref q4, Value.ref q5, Value.ref q6])), (q3, Sum.inl (cy3, 100, Sum.inl g3))] H → va_D A [(h0, Sum.inr (5, [Value.int (nI w), Value.int (nI h), Value.ref q1, Value.ref q2, Value.ref q3, Value.ref q4, Value.ref q5, Value.ref q6])), (q3, Sum.inl (cy3, 100, Sum.inl g3))] → va_S A s.heap H locs → ∀ ls : Array Slot, lv_has ls 6 [(0, Value.ref h0), (1, Value.int (nI i)), (2, Value.int (nI j)), (3, Value.int wt), (4, Value.int dy)] → W p l e ({ frames := 1, cells := 0, slots := 0, locals := 22 }) s m args below meth c H locs 0 0 Q (F0 m 68 ls [])) :
    ∀ n : Nat, ∀ (g3 : Nat → Int32) (dx : Int32) (u : Nat), (w ≤ 10) → (h ≤ 10) → (i < w) → (j < h) → (dy.toInt = (t : Int) - 1) → (t < 3) → (dx.toInt = (u : Int) - 1) → (u ≤ 3) → (∀ c, c % 10 < w → c / 10 < h → g3 c = f3 c + wt * nI (plN i j c (3 * t + u))) → (3 - u) < n → ∀ (H : Heap) (locs : List Loc), va_P D vwCl [(h0, Sum.inr (5, [Value.int (nI w), Value.int (nI h), Value.ref q1, Value.ref q2, Value.ref q3, Value.ref q4, Value.ref q5, Value.ref q6])), (q3, Sum.inl (cy3, 100, Sum.inl g3))] H → va_D A [(h0, Sum.inr (5, [Value.int (nI w), Value.int (nI h), Value.ref q1, Value.ref q2, Value.ref q3, Value.ref q4, Value.ref q5, Value.ref q6])), (q3, Sum.inl (cy3, 100, Sum.inl g3))] → va_S A s.heap H locs → ∀ ls : Array Slot, lv_has ls 6 [(0, Value.ref h0), (1, Value.int (nI i)), (2, Value.int (nI j)), (3, Value.int wt), (4, Value.int dy), (5, Value.int dx)] → W p l e ({ frames := 1, cells := 0, slots := 0, locals := 22 }) s m args below meth c H locs 0 0 Q (F0 m 12 ls []) := by
  intro n
  induction n with
  | zero => intro g3 dx u h3 h4 hi hj hdy ht hdx hu hg hn; exact absurd hn (Nat.not_lt_zero _)
  | succ n ih =>
    intro g3 dx u h3 h4 hi hj hdy ht hdx hu hg hn H locs hP hD hS ls hl
    obtain ⟨hx, hb, hml, hown, hts⟩ := id F
    refine lv_iload hx hb dX6_load_12 (lv_at hl 5 rfl) ?_
    refine lv_iconst (v := 1) hx hb dX6_load_14 (by decide) ?_
    refine lv_icmp_gt (tgt := 68) hx hb dX6_load_15 (by decide) (fun c_1 => ?_) (fun c_1 => ?_)
    · skip
      have c_1z : (1 : Int) < dx.toInt := z_lt (by decide) rfl c_1
      exact kx_68 g3 ((show u = 3 by omega) ▸ hg) H locs (hP.sub [0, 1] rfl) (hD.sub [0, 1] (by decide) rfl) hS ls (lv_sub hl [0, 1, 2, 3, 4] rfl)
    · skip
      have c_1z : dx.toInt ≤ (1 : Int) := z_nlt (by decide) rfl c_1
      refine lv_aload_n hx hb dX6_load_18 rfl (lv_at hl 0 rfl) ?_
      refine lv_iload_n hx hb dX6_load_19 rfl (lv_at hl 1 rfl) ?_
      refine lv_iload hx hb dX6_load_20 (lv_at hl 5 rfl) ?_
      refine lv_iadd hx hb dX6_load_22 ?_
      refine lv_topi (fun z_2 ez_2 => ?_)
      have hZz_2 : z_2.toInt = ((i : Nat) : Int) + dx.toInt := by rw [ez_2]; exact z_add (nI_toInt (by omega)) rfl (by omega) (by omega)
      refine lv_iload_n hx hb dX6_load_23 rfl (lv_at hl 2 rfl) ?_
      refine lv_iload hx hb dX6_load_24 (lv_at hl 4 rfl) ?_
      refine lv_iadd hx hb dX6_load_26 ?_
      refine lv_topi (fun z_3 ez_3 => ?_)
      have hZz_3 : z_3.toInt = ((j : Nat) : Int) + dy.toInt := by rw [ez_3]; exact z_add (nI_toInt (by omega)) rfl (by omega) (by omega)
      refine mc_Vi (rest := []) (wr := [(q3, Sum.inl (cy3, 100, Sum.inl g3))]) F hK hP hD hS hA (c_has_any l D h0 q1 q2 q3 q4 q5 q6 w h z_2 z_3 (by omega) (by omega)) ⟨gk_X6_42.1, gk_X6_42.2, Nat.le_of_ble_eq_true rfl, Nat.le_of_ble_eq_true rfl⟩ [0] [1] [] ⟨rfl, rfl, rfl, rfl, by decide⟩ rfl xT_move (fun _ _ _ => trivial) 0 rfl rfl rfl hl.1 rfl (Nat.le_of_ble_eq_true rfl) dX6_load_27 ⟨Nat.le_of_ble_eq_true rfl, Nat.le_of_ble_eq_true rfl⟩ (fun r_4 _ H locs hw hK1 hP hD hS => ?_)
      have hP : va_P D vwCl [(q3, Sum.inl (cy3, 100, Sum.inl g3)), (h0, Sum.inr (5, [Value.int (nI w), Value.int (nI h), Value.ref q1, Value.ref q2, Value.ref q3, Value.ref q4, Value.ref q5, Value.ref q6]))] H := hP
      have hD : va_D A [(q3, Sum.inl (cy3, 100, Sum.inl g3)), (h0, Sum.inr (5, [Value.int (nI w), Value.int (nI h), Value.ref q1, Value.ref q2, Value.ref q3, Value.ref q4, Value.ref q5, Value.ref q6]))] := hD
      have hw_5 : r_4 = (if (z_2 < 0 ∨ ¬ z_2 < nI w ∨ z_3 < 0 ∨ ¬ z_3 < nI h) then 0 else 1) := hw
      by_cases ho_6 : (z_2 < 0 ∨ ¬ z_2 < nI w ∨ z_3 < 0 ∨ ¬ z_3 < nI h)
      · skip
        obtain rfl : r_4 = 0 := by rw [hw_5, if_pos ho_6]
        have hzo := out_z (by omega) (by omega) ho_6
        refine lv_if_eq (tgt := 62) hx hb dX6_load_30 (by decide) (fun c_7 => ?_) (fun c_7 => absurd c_7 (by decide))
        obtain ⟨z_8, ez_8⟩ : ∃ y : Int32, y = dx + 1 := ⟨_, rfl⟩
        have hZz_8 : z_8.toInt = dx.toInt + (1 : Int) := by rw [ez_8]; exact z_add rfl (by decide) (by omega) (by omega)
        refine lv_iinc (v := z_8) (lv' := [(5, Value.int z_8), (0, Value.ref h0), (1, Value.int (nI i)), (2, Value.int (nI j)), (3, Value.int wt), (4, Value.int dy)]) hx hb dX6_load_62 hl (k := 5) rfl (by rw [ez_8]; rfl) (by decide) rfl (fun ls hl => ?_)
        refine lv_goto (tgt := 12) hx hb dX6_load_65 (by decide) ?_
        exact ih g3 z_8 (u + 1) (by omega) (by omega) (by omega) (by omega) hdy (by omega) (by omega) (by omega) (ld_0 hg (by omega) (fun c q1 q2 q3 q4 => by omega)) (by omega) H locs (hP.sub [1, 0] rfl) (hD.sub [1, 0] (by decide) rfl) hS ls (lv_sub hl [1, 2, 3, 4, 5, 0] rfl)
      · skip
        obtain rfl : r_4 = 1 := by rw [hw_5, if_neg ho_6]
        obtain ⟨i_9, hi_9, ei_9⟩ : ∃ j : Nat, j < w ∧ z_2 = nI j := n_lt (fun q => ho_6 (Or.inl q)) (fun q => ho_6 (Or.inr (Or.inl (Int32.not_lt.mpr q)))) (by omega)
        obtain ⟨j_10, hj_10, ej_10⟩ : ∃ j : Nat, j < h ∧ z_3 = nI j := n_lt (fun q => ho_6 (Or.inr (Or.inr (Or.inl q)))) (fun q => ho_6 (Or.inr (Or.inr (Or.inr (Int32.not_lt.mpr q))))) (by omega)
        have hzi_9 := in_z ei_9 (by omega)
        have hzj_10 := in_z ej_10 (by omega)
        subst ei_9
        subst ej_10
        have hcl : cl (nI i_9) (nI j_10) = j_10 * 10 + i_9 := cl_nI (by omega) (by omega)
        have hl : lv_has ls 6 [(0, Value.ref h0), (1, Value.int (nI i)), (2, Value.int (nI j)), (3, Value.int wt), (4, Value.int dy), (5, Value.int dx)] := hl
        refine lv_if_eq (tgt := 62) hx hb dX6_load_30 (by decide) (fun c_11 => absurd c_11 (by decide)) (fun c_11 => ?_)
        refine lv_aload_n hx hb dX6_load_33 rfl (lv_at hl 0 rfl) ?_
        refine va_get (D := D) (ci := 5) (v := Value.ref q3) (C := RX6) (T := TX6) (N := 8) hx hb hts inG_X6 hown hK hP 1 rfl rfl 4 (by decide) (hts _ kw_1_152) (fun _ h9 => h9) rfl dX6_load_34 ?_
        refine lv_aload_n hx hb dX6_load_37 rfl (lv_at hl 0 rfl) ?_
        refine lv_iload_n hx hb dX6_load_38 rfl (lv_at hl 1 rfl) ?_
        refine lv_iload hx hb dX6_load_39 (lv_at hl 5 rfl) ?_
        refine lv_iadd hx hb dX6_load_41 ?_
        refine lv_topi (fun z_12 ez_12 => ?_)
        obtain rfl : z_12 = nI i_9 := ez_12.trans ez_2.symm
        refine lv_iload_n hx hb dX6_load_42 rfl (lv_at hl 2 rfl) ?_
        refine lv_iload hx hb dX6_load_43 (lv_at hl 4 rfl) ?_
        refine lv_iadd hx hb dX6_load_45 ?_
        refine lv_topi (fun z_13 ez_13 => ?_)
        obtain rfl : z_13 = nI j_10 := ez_13.trans ez_3.symm
        refine mc_Vi (rest := [Value.ref q3]) (wr := [(q3, Sum.inl (cy3, 100, Sum.inl g3))]) F hK hP hD hS hA (c_spotOf l D h0 q1 q2 q3 q4 q5 q6 w h i_9 j_10 ) ⟨gk_X6_46.1, gk_X6_46.2, Nat.le_of_ble_eq_true rfl, Nat.le_of_ble_eq_true rfl⟩ [1] [0] [] ⟨rfl, rfl, rfl, rfl, by decide⟩ rfl xT_move (fun _ _ _ => trivial) 1 rfl rfl rfl hl.1 rfl (Nat.le_of_ble_eq_true rfl) dX6_load_46 ⟨Nat.le_of_ble_eq_true rfl, Nat.le_of_ble_eq_true rfl⟩ (fun r_14 _ H locs hw hK1 hP hD hS => ?_)
        have hP : va_P D vwCl [(q3, Sum.inl (cy3, 100, Sum.inl g3)), (h0, Sum.inr (5, [Value.int (nI w), Value.int (nI h), Value.ref q1, Value.ref q2, Value.ref q3, Value.ref q4, Value.ref q5, Value.ref q6]))] H := hP
        have hD : va_D A [(q3, Sum.inl (cy3, 100, Sum.inl g3)), (h0, Sum.inr (5, [Value.int (nI w), Value.int (nI h), Value.ref q1, Value.ref q2, Value.ref q3, Value.ref q4, Value.ref q5, Value.ref q6]))] := hD
        have hw_15 : r_14 = nI (j_10 * 10 + i_9) := hw
        obtain rfl : r_14 = nI (j_10 * 10 + i_9) := hw_15
        refine lv_dup2_11 hx hb dX6_load_49 rfl rfl ?_
        refine m_iald hx hb hK hP 0 0 rfl rfl (j_10 * 10 + i_9) rfl (by omega) (by decide) dX6_load_50 ?_
        refine lv_topi (fun v_16 ev_16 => ?_)
        refine lv_iload_n hx hb dX6_load_51 rfl (lv_at hl 3 rfl) ?_
        refine lv_iload hx hb dX6_load_52 (lv_at hl 5 rfl) ?_
        refine lv_iload hx hb dX6_load_54 (lv_at hl 4 rfl) ?_
        refine mc_Si (rest := [Value.int wt, Value.int v_16, Value.int (nI (j_10 * 10 + i_9)), Value.ref q3]) (wr := [(q3, Sum.inl (cy3, 100, Sum.inl g3)), (h0, Sum.inr (5, [Value.int (nI w), Value.int (nI h), Value.ref q1, Value.ref q2, Value.ref q3, Value.ref q4, Value.ref q5, Value.ref q6]))]) F hK hP hD hS hA (s_share l D dx dy ) ⟨gk_X6_69.1, gk_X6_69.2, Nat.le_of_ble_eq_true rfl, Nat.le_of_ble_eq_true rfl⟩ [] [0, 1] [] ⟨rfl, rfl, rfl, rfl, by decide⟩ rfl xT_move (fun _ _ _ => trivial) rfl hl.1 rfl (Nat.le_of_ble_eq_true rfl) dX6_load_56 ⟨Nat.le_of_ble_eq_true rfl, Nat.le_of_ble_eq_true rfl⟩ (fun r_17 _ H locs hw hK1 hP hD hS => ?_)
        have hP : va_P D vwCl [(q3, Sum.inl (cy3, 100, Sum.inl g3)), (h0, Sum.inr (5, [Value.int (nI w), Value.int (nI h), Value.ref q1, Value.ref q2, Value.ref q3, Value.ref q4, Value.ref q5, Value.ref q6]))] H := hP
        have hD : va_D A [(q3, Sum.inl (cy3, 100, Sum.inl g3)), (h0, Sum.inr (5, [Value.int (nI w), Value.int (nI h), Value.ref q1, Value.ref q2, Value.ref q3, Value.ref q4, Value.ref q5, Value.ref q6]))] := hD
        have hw_18 : r_17 = (if dx = 0 then (2 : Int32) else 1) * (if dy = 0 then 2 else 1) := hw
        refine lv_imul hx hb dX6_load_59 ?_
        refine lv_topi (fun z_19 ez_19 => ?_)
        refine lv_iadd hx hb dX6_load_60 ?_
        refine lv_topi (fun z_20 ez_20 => ?_)
        refine m_iast hx hb hK hP hD hS 0 0 rfl rfl (j_10 * 10 + i_9) rfl (by omega) (by decide) dX6_load_61 (fun g_21 H locs eg_21 hP hD hS => ?_)
        have hP : va_P D vwCl [(q3, Sum.inl (cy3, 100, Sum.inl g_21)), (h0, Sum.inr (5, [Value.int (nI w), Value.int (nI h), Value.ref q1, Value.ref q2, Value.ref q3, Value.ref q4, Value.ref q5, Value.ref q6]))] H := hP
        have hD : va_D A [(q3, Sum.inl (cy3, 100, Sum.inl g_21)), (h0, Sum.inr (5, [Value.int (nI w), Value.int (nI h), Value.ref q1, Value.ref q2, Value.ref q3, Value.ref q4, Value.ref q5, Value.ref q6]))] := hD
        obtain ⟨z_22, ez_22⟩ : ∃ y : Int32, y = dx + 1 := ⟨_, rfl⟩
        have hZz_22 : z_22.toInt = dx.toInt + (1 : Int) := by rw [ez_22]; exact z_add rfl (by decide) (by omega) (by omega)
        refine lv_iinc (v := z_22) (lv' := [(5, Value.int z_22), (0, Value.ref h0), (1, Value.int (nI i)), (2, Value.int (nI j)), (3, Value.int wt), (4, Value.int dy)]) hx hb dX6_load_62 hl (k := 5) rfl (by rw [ez_22]; rfl) (by decide) rfl (fun ls hl => ?_)
        refine lv_goto (tgt := 12) hx hb dX6_load_65 (by decide) ?_
        exact ih g_21 z_22 (u + 1) (by omega) (by omega) (by omega) (by omega) hdy (by omega) (by omega) (by omega) (ld_1 hg (by omega) (c0 := j_10 * 10 + i_9) (by omega) (by omega) (by omega) (by omega) eg_21 (by rw [ez_20, ez_19, ev_16, hw_18, sh_val hdx hdy (by omega) ht])) (by omega) H locs (hP.sub [1, 0] rfl) (hD.sub [1, 0] (by decide) rfl) hS ls (lv_sub hl [1, 2, 3, 4, 5, 0] rfl)
set_option maxHeartbeats 4000000 in
set_option maxRecDepth 100000 in
theorem lp_s_load_out {p : Program} {l : Launch} {e : Env} {s : State} {m : MethodId} {args : Array Value} {below : List Frame} {meth : Method} {c : Code} {Q : State → Prop} {A : Nat → Prop} {D : va_G} (F : mFix p s m args c cX6_load 6 RX6) (hA : ∀ q, s.heap.size ≤ q → A q) (h0 : Nat) (w : Nat) (h : Nat) (q1 : Nat) (q2 : Nat) (q3 : Nat) (q4 : Nat) (q5 : Nat) (q6 : Nat) (cy3 : ClassId) (i : Nat) (j : Nat) (wt : Int32) (f3 : Nat → Int32) (hK : va_K D vwCl [(cy3, .int)] s)
    (kx_74 : ∀ (g3 : Nat → Int32), (∀ c, c % 10 < w → c / 10 < h → g3 c = f3 c + wt * nI (plN i j c (9))) → ∀ (H : Heap) (locs : List Loc), va_P D vwCl [(h0, Sum.inr (5, [Value.int (nI w), Value.int (nI h), Value.ref q1, Value.ref q2, Value.ref q3, Value.ref q4, Value.ref q5, Value.ref q6])), (q3, Sum.inl (cy3, 100, Sum.inl g3))] H → va_D A [(h0, Sum.inr (5, [Value.int (nI w), Value.int (nI h), Value.ref q1, Value.ref q2, Value.ref q3, Value.ref q4, Value.ref q5, Value.ref q6])), (q3, Sum.inl (cy3, 100, Sum.inl g3))] → va_S A s.heap H locs → ∀ ls : Array Slot, lv_has ls 6 [] → W p l e ({ frames := 1, cells := 0, slots := 0, locals := 22 }) s m args below meth c H locs 0 0 Q (F0 m 74 ls [])) :
    ∀ n : Nat, ∀ (g3 : Nat → Int32) (dy : Int32) (t : Nat), (w ≤ 10) → (h ≤ 10) → (i < w) → (j < h) → (dy.toInt = (t : Int) - 1) → (t ≤ 3) → (∀ c, c % 10 < w → c / 10 < h → g3 c = f3 c + wt * nI (plN i j c (3 * t))) → (3 - t) < n → ∀ (H : Heap) (locs : List Loc), va_P D vwCl [(h0, Sum.inr (5, [Value.int (nI w), Value.int (nI h), Value.ref q1, Value.ref q2, Value.ref q3, Value.ref q4, Value.ref q5, Value.ref q6])), (q3, Sum.inl (cy3, 100, Sum.inl g3))] H → va_D A [(h0, Sum.inr (5, [Value.int (nI w), Value.int (nI h), Value.ref q1, Value.ref q2, Value.ref q3, Value.ref q4, Value.ref q5, Value.ref q6])), (q3, Sum.inl (cy3, 100, Sum.inl g3))] → va_S A s.heap H locs → ∀ ls : Array Slot, lv_has ls 6 [(0, Value.ref h0), (1, Value.int (nI i)), (2, Value.int (nI j)), (3, Value.int wt), (4, Value.int dy)] → W p l e ({ frames := 1, cells := 0, slots := 0, locals := 22 }) s m args below meth c H locs 0 0 Q (F0 m 3 ls []) := by
  intro n
  induction n with
  | zero => intro g3 dy t h3 h4 hi hj hdy ht hg hn; exact absurd hn (Nat.not_lt_zero _)
  | succ n ih =>
    intro g3 dy t h3 h4 hi hj hdy ht hg hn H locs hP hD hS ls hl
    obtain ⟨hx, hb, hml, hown, hts⟩ := id F
    refine lv_iload hx hb dX6_load_3 (lv_at hl 4 rfl) ?_
    refine lv_iconst (v := 1) hx hb dX6_load_5 (by decide) ?_
    refine lv_icmp_gt (tgt := 74) hx hb dX6_load_6 (by decide) (fun c_1 => ?_) (fun c_1 => ?_)
    · skip
      have c_1z : (1 : Int) < dy.toInt := z_lt (by decide) rfl c_1
      exact kx_74 g3 (by have q : t = 3 := (by omega); rw [q] at hg; exact hg) H locs (hP.sub [0, 1] rfl) (hD.sub [0, 1] (by decide) rfl) hS ls (lv_sub hl [] rfl)
    · skip
      have c_1z : dy.toInt ≤ (1 : Int) := z_nlt (by decide) rfl c_1
      refine lv_iconst (v := -1) hx hb dX6_load_9 (by decide) ?_
      refine lv_istore (lv' := [(5, Value.int ((-1))), (0, Value.ref h0), (1, Value.int (nI i)), (2, Value.int (nI j)), (3, Value.int wt), (4, Value.int dy)]) hx hb dX6_load_10 hl (by decide) rfl (fun ls hl => ?_)
      refine lp_s_load_in F hA h0 w h q1 q2 q3 q4 q5 q6 cy3 i j wt dy f3 t (hK.sub [0] rfl) (fun g3_2 h_3 H locs hP hD hS ls hl => ?_) _ g3 ((-1)) 0 (by omega) (by omega) (by omega) (by omega) hdy (by omega) (by decide) (by omega) hg (Nat.lt_succ_self _) _ _ (hP.sub [0, 1] rfl) (hD.sub [0, 1] (by decide) rfl) hS ls (lv_sub hl [1, 2, 3, 4, 5, 0] rfl)
      have h_3 : ∀ c, c % 10 < w → c / 10 < h → g3_2 c = f3 c + wt * nI (plN i j c (3 * t + 3)) := h_3
      obtain ⟨z_4, ez_4⟩ : ∃ y : Int32, y = dy + 1 := ⟨_, rfl⟩
      have hZz_4 : z_4.toInt = dy.toInt + (1 : Int) := by rw [ez_4]; exact z_add rfl (by decide) (by omega) (by omega)
      refine lv_iinc (v := z_4) (lv' := [(4, Value.int z_4), (0, Value.ref h0), (1, Value.int (nI i)), (2, Value.int (nI j)), (3, Value.int wt)]) hx hb dX6_load_68 hl (k := 4) rfl (by rw [ez_4]; rfl) (by decide) rfl (fun ls hl => ?_)
      refine lv_goto (tgt := 3) hx hb dX6_load_71 (by decide) ?_
      exact ih g3_2 z_4 (t + 1) (by omega) (by omega) (by omega) (by omega) (by omega) (by omega) h_3 (by omega) H locs (hP.sub [0, 1] rfl) (hD.sub [0, 1] (by decide) rfl) hS ls (lv_sub hl [1, 2, 3, 4, 0] rfl)
set_option maxHeartbeats 4000000 in
set_option maxRecDepth 100000 in
theorem s_load (l : Launch) (D : va_G) (h0 : Nat) (w : Nat) (h : Nat) (q1 : Nat) (q2 : Nat) (q3 : Nat) (q4 : Nat) (q5 : Nat) (q6 : Nat) (cy3 : ClassId) (f3 : Nat → Int32) (i : Nat) (j : Nat) (wt : Int32) (h3 : w ≤ 10) (h4 : h ≤ 10) (hi : i < w) (hj : j < h) : cV l yX6_load (.code yX6_load cX6_load 6 none) ({ frames := 1, cells := 0, slots := 0, locals := 22 }) D [(cy3, .int)] [(h0, Sum.inr (5, [Value.int (nI w), Value.int (nI h), Value.ref q1, Value.ref q2, Value.ref q3, Value.ref q4, Value.ref q5, Value.ref q6])), (q3, Sum.inl (cy3, 100, Sum.inl f3))] xT [Value.ref h0, Value.int (nI i), Value.int (nI j), Value.int wt] (S := (Nat → Int32)) (fun u => match u with | g3 => ∀ c, c % 10 < w → c / 10 < h → g3 c = f3 c + wt * nI (shN (j * 10 + i) c)) (fun u => match u with | g3 => []) (fun u => match u with | g3 => [(h0, Sum.inr (5, [Value.int (nI w), Value.int (nI h), Value.ref q1, Value.ref q2, Value.ref q3, Value.ref q4, Value.ref q5, Value.ref q6])), (q3, Sum.inl (cy3, 100, Sum.inl g3))]) := by
  intro sz
  refine Met.ofW (cc := cX6_load) (maxL := 6) (ret := none) (by decide) rfl ?_
  intro p e s m args below meth c s₁ B hml hv
  obtain ⟨rfl, hsz, hP, hK, hD0, hX⟩ := hv
  have hx := B.exec
  have hb := B.bytes
  have hr := B.returns
  have hts0 := atoms_spec (ws := .code yX6_load cX6_load 6 none :: gw) B.pre
  have hts := fun (w : Cond) (h : w ∈ gw) => hts0 w (List.mem_cons_of_mem _ h)
  have hown : s.vm.findClass RX6 = some m.cls := findClass_of_methodNamed B.named
  have hlocks := B.notSynchronized
  have F : mFix p s m _ c cX6_load 6 RX6 := ⟨hx, hb, hml, hown, hts⟩
  subst hsz
  have hD := hD0.self (sz := s.heap.size)
  generalize hAe : va_A [(h0, Sum.inr (5, [Value.int (nI w), Value.int (nI h), Value.ref q1, Value.ref q2, Value.ref q3, Value.ref q4, Value.ref q5, Value.ref q6])), (q3, Sum.inl (cy3, 100, Sum.inl f3))] s.heap.size = A at hD hX ⊢
  have hA : ∀ q : Nat, s.heap.size ≤ q → A q := fun q h => by rw [← hAe]; exact Or.inr h
  have hS : va_S A s.heap s.heap [] := va_S.rf
  have hl := lv_entry ([Value.ref h0, Value.int (nI i), Value.int (nI j), Value.int wt]) (n := 6) (Nat.le_of_ble_eq_true rfl)
  rw [lg_entry_eq]
  generalize (lg_sl ([Value.ref h0, Value.int (nI i), Value.int (nI j), Value.int wt]) ++ List.replicate (6 - (lg_sl ([Value.ref h0, Value.int (nI i), Value.int (nI j), Value.int wt])).length) Slot.unset).toArray = ls at hl ⊢
  have hl : lv_has ls 6 [(0, Value.ref h0), (1, Value.int (nI i)), (2, Value.int (nI j)), (3, Value.int wt)] := hl
  have hP : va_P D vwCl [(h0, Sum.inr (5, [Value.int (nI w), Value.int (nI h), Value.ref q1, Value.ref q2, Value.ref q3, Value.ref q4, Value.ref q5, Value.ref q6])), (q3, Sum.inl (cy3, 100, Sum.inl f3))] s.heap := hP
  refine lv_iconst (v := -1) hx hb dX6_load_0 (by decide) ?_
  refine lv_istore (lv' := [(4, Value.int ((-1))), (0, Value.ref h0), (1, Value.int (nI i)), (2, Value.int (nI j)), (3, Value.int wt)]) hx hb dX6_load_1 hl (by decide) rfl (fun ls hl => ?_)
  refine lp_s_load_out F hA h0 w h q1 q2 q3 q4 q5 q6 cy3 i j wt f3 (hK.sub [0] rfl) (fun g3_1 h_2 H locs hP hD hS ls hl => ?_) _ f3 ((-1)) 0 (by omega) (by omega) (by omega) (by omega) (by decide) (by omega) (fun c _ _ => by rw [show nI (plN i j c (3 * 0)) = 0 from rfl, Int32.mul_zero, Int32.add_zero]) (Nat.lt_succ_self _) _ _ (hP.sub [0, 1] rfl) (hD.sub [0, 1] (by decide) rfl) hS ls (lv_sub hl [1, 2, 3, 4, 0] rfl)
  have h_2 : ∀ c, c % 10 < w → c / 10 < h → g3_1 c = f3 c + wt * nI (plN i j c (9)) := h_2
  have hP9 := hP.sub (ws' := [(h0, Sum.inr (5, [Value.int (nI w), Value.int (nI h), Value.ref q1, Value.ref q2, Value.ref q3, Value.ref q4, Value.ref q5, Value.ref q6])), (q3, Sum.inl (cy3, 100, Sum.inl g3_1))]) [0, 1] rfl
  have hD9 := hD.sub (ws' := [(h0, Sum.inr (5, [Value.int (nI w), Value.int (nI h), Value.ref q1, Value.ref q2, Value.ref q3, Value.ref q4, Value.ref q5, Value.ref q6])), (q3, Sum.inl (cy3, 100, Sum.inl g3_1))]) [0, 1] (by decide) rfl
  have hK9 := hK.sub (tys' := []) [] rfl
  refine W.widen (k := 0) (n := 0) (by decide) (by decide) ?_
  exact W.vret hx hb hr (fun t ht hW => ⟨⟨g3_1, rfl, (fun c q1 q2 => by rw [← plN_9 (by omega)]; exact h_2 c q1 q2), by rw [ht]; exact hP9, va_K.moved hW.alike hK9, hD9⟩, hS.F ht⟩) hS.2.2 dX6_load_74
