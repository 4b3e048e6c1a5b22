set_option maxHeartbeats 4000000 in
set_option maxRecDepth 100000 in
theorem s_reach (l : Launch) (D : va_G) (h0 : Nat) (rv : Nat) (wy1 : Nat) (wy2 : Nat) (wy3 : Nat) (wy4 : Nat) (wc1 : ClassId) (wc2 : ClassId) (s1 : Nat → Int32) (s2 : Nat → Int32) (cr : Int32) (qn : Nat) (q1 : Nat) (q2 : Nat) (q3 : Nat) (q4 : Nat) (q5 : Nat) (q6 : Nat) (cy1 : ClassId) (cy5 : ClassId) (f1 : Nat → Int32) (f5 : Nat → Int32) (w : Nat) (h : Nat) (x : Int32) (y : Int32) (tk : Int32) (h3 : w ≤ 10) (h4 : h ≤ 10) (hq : qn ≤ 100) : cV l yX8_reach (.code yX8_reach cX8_reach 5 none) ({ frames := 2, cells := 0, slots := 0, locals := 45 }) D [(wc1, .int), (wc2, .int), (cy1, .int), (cy5, .boolean)] [(h0, Sum.inr (7, [Value.ref wy1, Value.ref wy2, Value.int (nI qn), Value.ref wy3, Value.ref wy4, Value.int cr])), (wy1, Sum.inl (wc1, 100, Sum.inl s1)), (wy2, Sum.inl (wc2, 100, Sum.inl s2)), (rv, Sum.inr (5, [Value.int (nI w), Value.int (nI h), Value.ref q1, Value.ref q2, Value.ref q3, Value.ref q4, Value.ref q5, Value.ref q6])), (q1, Sum.inl (cy1, 100, Sum.inl f1)), (q5, Sum.inl (cy5, 100, Sum.inl f5))] xT [Value.ref h0, Value.ref rv, Value.int x, Value.int y, Value.int tk] (S := Nat × (Nat → Int32) × (Nat → Int32)) (fun u => match u with | (q9, t1, t2) => (t1 = s1 ∧ t2 = s2 ∧ q9 = qn ∧ ((¬ (x < 0 ∨ ¬ x < nI w ∨ y < 0 ∨ ¬ y < nI h) ∧ 0 < f1 (cl x y) ∧ f5 (cl x y) = 0) → (¬ s1 (cl x y) = (-1)) ∨ 100 ≤ qn)) ∨ ((¬ (x < 0 ∨ ¬ x < nI w ∨ y < 0 ∨ ¬ y < nI h) ∧ 0 < f1 (cl x y) ∧ f5 (cl x y) = 0) ∧ s1 (cl x y) = (-1) ∧ t1 = upd s1 (cl x y) tk ∧ t2 = upd s2 qn (nI (cl x y)) ∧ q9 = qn + 1 ∧ qn < 100)) (fun u => match u with | (q9, t1, t2) => []) (fun u => match u with | (q9, t1, t2) => [(h0, Sum.inr (7, [Value.ref wy1, Value.ref wy2, Value.int (nI q9), Value.ref wy3, Value.ref wy4, Value.int cr])), (wy1, Sum.inl (wc1, 100, Sum.inl t1)), (wy2, Sum.inl (wc2, 100, Sum.inl t2)), (rv, Sum.inr (5, [Value.int (nI w), Value.int (nI h), Value.ref q1, Value.ref q2, Value.ref q3, Value.ref q4, Value.ref q5, Value.ref q6])), (q1, Sum.inl (cy1, 100, Sum.inl f1)), (q5, Sum.inl (cy5, 100, Sum.inl f5))]) := by
  intro sz
  refine Met.ofW (cc := cX8_reach) (maxL := 5) (ret := none) (by decide) rfl ?_
  intro p e s m args below meth c s₁ B hml hv
  obtain ⟨rfl, hsz, hP, hK, hD0, hX⟩ := hv
  have hx := B.exec
  have hb := B.bytes
  have hr := B.returns
  have hts0 := atoms_spec (ws := .code yX8_reach cX8_reach 5 none :: gw) B.pre
  have hts := fun (w : Cond) (h : w ∈ gw) => hts0 w (List.mem_cons_of_mem _ h)
  have hown : s.vm.findClass RX8 = some m.cls := findClass_of_methodNamed B.named
  have hlocks := B.notSynchronized
  have F : mFix p s m _ c cX8_reach 5 RX8 := ⟨hx, hb, hml, hown, hts⟩
  subst hsz
  have hD := hD0.self (sz := s.heap.size)
  generalize hAe : va_A [(h0, Sum.inr (7, [Value.ref wy1, Value.ref wy2, Value.int (nI qn), Value.ref wy3, Value.ref wy4, Value.int cr])), (wy1, Sum.inl (wc1, 100, Sum.inl s1)), (wy2, Sum.inl (wc2, 100, Sum.inl s2)), (rv, Sum.inr (5, [Value.int (nI w), Value.int (nI h), Value.ref q1, Value.ref q2, Value.ref q3, Value.ref q4, Value.ref q5, Value.ref q6])), (q1, Sum.inl (cy1, 100, Sum.inl f1)), (q5, Sum.inl (cy5, 100, Sum.inl f5))] s.heap.size = A at hD hX ⊢
  have hA : ∀ q : Nat, s.heap.size ≤ q → A q := fun q h => by rw [← hAe]; exact Or.inr h
  have hS : va_S A s.heap s.heap [] := va_S.rf
  have hl := lv_entry ([Value.ref h0, Value.ref rv, Value.int x, Value.int y, Value.int tk]) (n := 5) (Nat.le_of_ble_eq_true rfl)
  rw [lg_entry_eq]
  generalize (lg_sl ([Value.ref h0, Value.ref rv, Value.int x, Value.int y, Value.int tk]) ++ List.replicate (5 - (lg_sl ([Value.ref h0, Value.ref rv, Value.int x, Value.int y, Value.int tk])).length) Slot.unset).toArray = ls at hl ⊢
  have hl : lv_has ls 5 [(0, Value.ref h0), (1, Value.ref rv), (2, Value.int x), (3, Value.int y), (4, Value.int tk)] := hl
  have hP : va_P D vwCl [(h0, Sum.inr (7, [Value.ref wy1, Value.ref wy2, Value.int (nI qn), Value.ref wy3, Value.ref wy4, Value.int cr])), (wy1, Sum.inl (wc1, 100, Sum.inl s1)), (wy2, Sum.inl (wc2, 100, Sum.inl s2)), (rv, Sum.inr (5, [Value.int (nI w), Value.int (nI h), Value.ref q1, Value.ref q2, Value.ref q3, Value.ref q4, Value.ref q5, Value.ref q6])), (q1, Sum.inl (cy1, 100, Sum.inl f1)), (q5, Sum.inl (cy5, 100, Sum.inl f5))] s.heap := hP
  refine lv_aload_n hx hb dX8_reach_0 rfl (lv_at hl 1 rfl) ?_
  refine lv_iload_n hx hb dX8_reach_1 rfl (lv_at hl 2 rfl) ?_
  refine lv_iload_n hx hb dX8_reach_2 rfl (lv_at hl 3 rfl) ?_
  refine mc_Vi (rest := []) (wr := [(h0, Sum.inr (7, [Value.ref wy1, Value.ref wy2, Value.int (nI qn), Value.ref wy3, Value.ref wy4, Value.int cr])), (wy1, Sum.inl (wc1, 100, Sum.inl s1)), (wy2, Sum.inl (wc2, 100, Sum.inl s2))]) F hK hP hD hS hA (s_isFirm l D rv w h q1 q2 q3 q4 q5 q6 cy1 f1 cy5 f5 x y (by omega) (by omega)) ⟨gk_X8_115.1, gk_X8_115.2, Nat.le_of_ble_eq_true rfl, Nat.le_of_ble_eq_true rfl⟩ [3, 4, 5] [0, 1, 2] [2, 3] ⟨rfl, rfl, rfl, rfl, by decide⟩ rfl xT_move (fun _ _ _ => trivial) 3 rfl rfl rfl hl.1 rfl (Nat.le_of_ble_eq_true rfl) dX8_reach_3 ⟨Nat.le_of_ble_eq_true rfl, Nat.le_of_ble_eq_true rfl⟩ (fun r_1 _ H locs hw hK1 hP hD hS => ?_)
  have hP : va_P D vwCl [(h0, Sum.inr (7, [Value.ref wy1, Value.ref wy2, Value.int (nI qn), Value.ref wy3, Value.ref wy4, Value.int cr])), (wy1, Sum.inl (wc1, 100, Sum.inl s1)), (wy2, Sum.inl (wc2, 100, Sum.inl s2)), (rv, Sum.inr (5, [Value.int (nI w), Value.int (nI h), Value.ref q1, Value.ref q2, Value.ref q3, Value.ref q4, Value.ref q5, Value.ref q6])), (q1, Sum.inl (cy1, 100, Sum.inl f1)), (q5, Sum.inl (cy5, 100, Sum.inl f5))] H := hP
  have hD : va_D A [(h0, Sum.inr (7, [Value.ref wy1, Value.ref wy2, Value.int (nI qn), Value.ref wy3, Value.ref wy4, Value.int cr])), (wy1, Sum.inl (wc1, 100, Sum.inl s1)), (wy2, Sum.inl (wc2, 100, Sum.inl s2)), (rv, Sum.inr (5, [Value.int (nI w), Value.int (nI h), Value.ref q1, Value.ref q2, Value.ref q3, Value.ref q4, Value.ref q5, Value.ref q6])), (q1, Sum.inl (cy1, 100, Sum.inl f1)), (q5, Sum.inl (cy5, 100, Sum.inl f5))] := hD
  have hw_2 : (r_1 = 1 ∧ (¬ (x < 0 ∨ ¬ x < nI w ∨ y < 0 ∨ ¬ y < nI h) ∧ 0 < f1 (cl x y) ∧ f5 (cl x y) = 0)) ∨ (r_1 = 0 ∧ ¬ (¬ (x < 0 ∨ ¬ x < nI w ∨ y < 0 ∨ ¬ y < nI h) ∧ 0 < f1 (cl x y) ∧ f5 (cl x y) = 0)) := hw
  rcases hw_2 with ⟨hr9, hfi⟩ | ⟨hr9, hfi⟩
  · skip
    subst hr9
    obtain ⟨i_3, hi_3, ei_3⟩ : ∃ j : Nat, j < w ∧ x = nI j := n_lt (fun q => hfi.1 (Or.inl q)) (fun q => hfi.1 (Or.inr (Or.inl (Int32.not_lt.mpr q)))) (by omega)
    obtain ⟨j_4, hj_4, ej_4⟩ : ∃ j : Nat, j < h ∧ y = nI j := n_lt (fun q => hfi.1 (Or.inr (Or.inr (Or.inl q)))) (fun q => hfi.1 (Or.inr (Or.inr (Or.inr (Int32.not_lt.mpr q))))) (by omega)
    subst ei_3
    subst ej_4
    have hcl : cl (nI i_3) (nI j_4) = j_4 * 10 + i_3 := cl_nI (by omega) (by omega)
    have hl : lv_has ls 5 [(0, Value.ref h0), (1, Value.ref rv), (2, Value.int (nI i_3)), (3, Value.int (nI j_4)), (4, Value.int tk)] := hl
    refine lv_if_eq (tgt := 33) hx hb dX8_reach_6 (by decide) (fun c_5 => absurd c_5 (by decide)) (fun c_5 => ?_)
    refine lv_aload_n hx hb dX8_reach_9 rfl (lv_at hl 0 rfl) ?_
    refine va_get (D := D) (ci := 7) (v := Value.ref wy1) (C := RX8) (T := TX8) (N := 6) hx hb hts inG_X8 hown hK hP 0 rfl rfl 0 (by decide) (hts _ kw_2_48) (fun _ h9 => h9) rfl dX8_reach_10 ?_
    refine lv_aload_n hx hb dX8_reach_13 rfl (lv_at hl 1 rfl) ?_
    refine lv_iload_n hx hb dX8_reach_14 rfl (lv_at hl 2 rfl) ?_
    refine lv_iload_n hx hb dX8_reach_15 rfl (lv_at hl 3 rfl) ?_
    refine mc_Vi (rest := [Value.ref wy1]) (wr := [(h0, Sum.inr (7, [Value.ref wy1, Value.ref wy2, Value.int (nI qn), Value.ref wy3, Value.ref wy4, Value.int cr])), (wy1, Sum.inl (wc1, 100, Sum.inl s1)), (wy2, Sum.inl (wc2, 100, Sum.inl s2)), (q1, Sum.inl (cy1, 100, Sum.inl f1)), (q5, Sum.inl (cy5, 100, Sum.inl f5))]) F hK hP hD hS hA (c_spotOf l D rv q1 q2 q3 q4 q5 q6 w h i_3 j_4 ) ⟨gk_X8_121.1, gk_X8_121.2, Nat.le_of_ble_eq_true rfl, Nat.le_of_ble_eq_true rfl⟩ [3] [0, 1, 2, 4, 5] [] ⟨rfl, rfl, rfl, rfl, by decide⟩ rfl xT_move (fun _ _ _ => trivial) 3 rfl rfl rfl hl.1 rfl (Nat.le_of_ble_eq_true rfl) dX8_reach_16 ⟨Nat.le_of_ble_eq_true rfl, Nat.le_of_ble_eq_true rfl⟩ (fun r_6 _ H locs hw hK1 hP hD hS => ?_)
    have hP : va_P D vwCl [(h0, Sum.inr (7, [Value.ref wy1, Value.ref wy2, Value.int (nI qn), Value.ref wy3, Value.ref wy4, Value.int cr])), (wy1, Sum.inl (wc1, 100, Sum.inl s1)), (wy2, Sum.inl (wc2, 100, Sum.inl s2)), (q1, Sum.inl (cy1, 100, Sum.inl f1)), (q5, Sum.inl (cy5, 100, Sum.inl f5)), (rv, Sum.inr (5, [Value.int (nI w), Value.int (nI h), Value.ref q1, Value.ref q2, Value.ref q3, Value.ref q4, Value.ref q5, Value.ref q6]))] H := hP
    have hD : va_D A [(h0, Sum.inr (7, [Value.ref wy1, Value.ref wy2, Value.int (nI qn), Value.ref wy3, Value.ref wy4, Value.int cr])), (wy1, Sum.inl (wc1, 100, Sum.inl s1)), (wy2, Sum.inl (wc2, 100, Sum.inl s2)), (q1, Sum.inl (cy1, 100, Sum.inl f1)), (q5, Sum.inl (cy5, 100, Sum.inl f5)), (rv, Sum.inr (5, [Value.int (nI w), Value.int (nI h), Value.ref q1, Value.ref q2, Value.ref q3, Value.ref q4, Value.ref q5, Value.ref q6]))] := hD
    have hw_7 : r_6 = nI (j_4 * 10 + i_3) := hw
    obtain rfl : r_6 = nI (j_4 * 10 + i_3) := hw_7
    refine m_iald hx hb hK hP 1 0 rfl rfl (j_4 * 10 + i_3) rfl (by omega) (by decide) dX8_reach_19 ?_
    refine lv_topi (fun v_8 ev_8 => ?_)
    refine lv_iconst (v := -1) hx hb dX8_reach_20 (by decide) ?_
    refine lv_icmp_ne (tgt := 33) hx hb dX8_reach_21 (by decide) (fun c_9 => ?_) (fun c_9 => ?_)
    · skip
      have hP9 := hP.sub (ws' := [(h0, Sum.inr (7, [Value.ref wy1, Value.ref wy2, Value.int (nI qn), Value.ref wy3, Value.ref wy4, Value.int cr])), (wy1, Sum.inl (wc1, 100, Sum.inl s1)), (wy2, Sum.inl (wc2, 100, Sum.inl s2)), (rv, Sum.inr (5, [Value.int (nI w), Value.int (nI h), Value.ref q1, Value.ref q2, Value.ref q3, Value.ref q4, Value.ref q5, Value.ref q6])), (q1, Sum.inl (cy1, 100, Sum.inl f1)), (q5, Sum.inl (cy5, 100, Sum.inl f5))]) [0, 1, 2, 5, 3, 4] rfl
      have hD9 := hD.sub (ws' := [(h0, Sum.inr (7, [Value.ref wy1, Value.ref wy2, Value.int (nI qn), Value.ref wy3, Value.ref wy4, Value.int cr])), (wy1, Sum.inl (wc1, 100, Sum.inl s1)), (wy2, Sum.inl (wc2, 100, Sum.inl s2)), (rv, Sum.inr (5, [Value.int (nI w), Value.int (nI h), Value.ref q1, Value.ref q2, Value.ref q3, Value.ref q4, Value.ref q5, Value.ref q6])), (q1, Sum.inl (cy1, 100, Sum.inl f1)), (q5, Sum.inl (cy5, 100, Sum.inl f5))]) [0, 1, 2, 5, 3, 4] (by decide) rfl
      have hK9 := hK.sub (tys' := []) [] rfl
      refine W.widen (k := 0) (n := 0) (by decide) (by decide) ?_
      exact W.vret hx hb hr (fun t ht hW => ⟨⟨(qn, s1, s2), rfl, Or.inl ⟨rfl, rfl, rfl, fun _ => Or.inl (by rw [hcl, ← ev_8]; exact c_9)⟩, by rw [ht]; exact hP9, va_K.moved hW.alike hK9, hD9⟩, hS.F ht⟩) hS.2.2 dX8_reach_33
    · skip
      refine lv_aload_n hx hb dX8_reach_24 rfl (lv_at hl 0 rfl) ?_
      refine va_get (D := D) (ci := 7) (v := Value.int (nI qn)) (C := RX8) (T := TX8) (N := 6) hx hb hts inG_X8 hown hK hP 0 rfl rfl 2 (by decide) (hts _ kw_2_50) (fun _ h9 => h9) rfl dX8_reach_25 ?_
      refine lv_bipush (v := 100) hx hb dX8_reach_28 (by decide) ?_
      refine lv_icmp_lt (tgt := 34) hx hb dX8_reach_30 (by decide) (fun c_10 => ?_) (fun c_10 => ?_)
      · skip
        have c_10n : qn < 100 := (nI_ltI (by omega) (by omega)).mp c_10
        refine lv_aload_n hx hb dX8_reach_34 rfl (lv_at hl 0 rfl) ?_
        refine va_get (D := D) (ci := 7) (v := Value.ref wy1) (C := RX8) (T := TX8) (N := 6) hx hb hts inG_X8 hown hK hP 0 rfl rfl 0 (by decide) (hts _ kw_2_48) (fun _ h9 => h9) rfl dX8_reach_35 ?_
        refine lv_aload_n hx hb dX8_reach_38 rfl (lv_at hl 1 rfl) ?_
        refine lv_iload_n hx hb dX8_reach_39 rfl (lv_at hl 2 rfl) ?_
        refine lv_iload_n hx hb dX8_reach_40 rfl (lv_at hl 3 rfl) ?_
        refine mc_Vi (rest := [Value.ref wy1]) (wr := [(h0, Sum.inr (7, [Value.ref wy1, Value.ref wy2, Value.int (nI qn), Value.ref wy3, Value.ref wy4, Value.int cr])), (wy1, Sum.inl (wc1, 100, Sum.inl s1)), (wy2, Sum.inl (wc2, 100, Sum.inl s2)), (q1, Sum.inl (cy1, 100, Sum.inl f1)), (q5, Sum.inl (cy5, 100, Sum.inl f5))]) F hK hP hD hS hA (c_spotOf l D rv q1 q2 q3 q4 q5 q6 w h i_3 j_4 ) ⟨gk_X8_121.1, gk_X8_121.2, Nat.le_of_ble_eq_true rfl, Nat.le_of_ble_eq_true rfl⟩ [5] [0, 1, 2, 3, 4] [] ⟨rfl, rfl, rfl, rfl, by decide⟩ rfl xT_move (fun _ _ _ => trivial) 5 rfl rfl rfl hl.1 rfl (Nat.le_of_ble_eq_true rfl) dX8_reach_41 ⟨Nat.le_of_ble_eq_true rfl, Nat.le_of_ble_eq_true rfl⟩ (fun r_11 _ H locs hw hK1 hP hD hS => ?_)
        have hP : va_P D vwCl [(h0, Sum.inr (7, [Value.ref wy1, Value.ref wy2, Value.int (nI qn), Value.ref wy3, Value.ref wy4, Value.int cr])), (wy1, Sum.inl (wc1, 100, Sum.inl s1)), (wy2, Sum.inl (wc2, 100, Sum.inl s2)), (q1, Sum.inl (cy1, 100, Sum.inl f1)), (q5, Sum.inl (cy5, 100, Sum.inl f5)), (rv, Sum.inr (5, [Value.int (nI w), Value.int (nI h), Value.ref q1, Value.ref q2, Value.ref q3, Value.ref q4, Value.ref q5, Value.ref q6]))] H := hP
        have hD : va_D A [(h0, Sum.inr (7, [Value.ref wy1, Value.ref wy2, Value.int (nI qn), Value.ref wy3, Value.ref wy4, Value.int cr])), (wy1, Sum.inl (wc1, 100, Sum.inl s1)), (wy2, Sum.inl (wc2, 100, Sum.inl s2)), (q1, Sum.inl (cy1, 100, Sum.inl f1)), (q5, Sum.inl (cy5, 100, Sum.inl f5)), (rv, Sum.inr (5, [Value.int (nI w), Value.int (nI h), Value.ref q1, Value.ref q2, Value.ref q3, Value.ref q4, Value.ref q5, Value.ref q6]))] := hD
        have hw_12 : r_11 = nI (j_4 * 10 + i_3) := hw
        obtain rfl : r_11 = nI (j_4 * 10 + i_3) := hw_12
        refine lv_iload hx hb dX8_reach_44 (lv_at hl 4 rfl) ?_
        refine m_iast hx hb hK hP hD hS 1 0 rfl rfl (j_4 * 10 + i_3) rfl (by omega) (by decide) dX8_reach_46 (fun g_13 H locs eg_13 hP hD hS => ?_)
        have hP : va_P D vwCl [(h0, Sum.inr (7, [Value.ref wy1, Value.ref wy2, Value.int (nI qn), Value.ref wy3, Value.ref wy4, Value.int cr])), (wy1, Sum.inl (wc1, 100, Sum.inl g_13)), (wy2, Sum.inl (wc2, 100, Sum.inl s2)), (q1, Sum.inl (cy1, 100, Sum.inl f1)), (q5, Sum.inl (cy5, 100, Sum.inl f5)), (rv, Sum.inr (5, [Value.int (nI w), Value.int (nI h), Value.ref q1, Value.ref q2, Value.ref q3, Value.ref q4, Value.ref q5, Value.ref q6]))] H := hP
        have hD : va_D A [(h0, Sum.inr (7, [Value.ref wy1, Value.ref wy2, Value.int (nI qn), Value.ref wy3, Value.ref wy4, Value.int cr])), (wy1, Sum.inl (wc1, 100, Sum.inl g_13)), (wy2, Sum.inl (wc2, 100, Sum.inl s2)), (q1, Sum.inl (cy1, 100, Sum.inl f1)), (q5, Sum.inl (cy5, 100, Sum.inl f5)), (rv, Sum.inr (5, [Value.int (nI w), Value.int (nI h), Value.ref q1, Value.ref q2, Value.ref q3, Value.ref q4, Value.ref q5, Value.ref q6]))] := hD
        refine lv_aload_n hx hb dX8_reach_47 rfl (lv_at hl 0 rfl) ?_
        refine va_get (D := D) (ci := 7) (v := Value.ref wy2) (C := RX8) (T := TX8) (N := 6) hx hb hts inG_X8 hown hK hP 0 rfl rfl 1 (by decide) (hts _ kw_2_49) (fun _ h9 => h9) rfl dX8_reach_48 ?_
        refine lv_aload_n hx hb dX8_reach_51 rfl (lv_at hl 0 rfl) ?_
        refine va_get (D := D) (ci := 7) (v := Value.int (nI qn)) (C := RX8) (T := TX8) (N := 6) hx hb hts inG_X8 hown hK hP 0 rfl rfl 2 (by decide) (hts _ kw_2_50) (fun _ h9 => h9) rfl dX8_reach_52 ?_
        refine lv_aload_n hx hb dX8_reach_55 rfl (lv_at hl 1 rfl) ?_
        refine lv_iload_n hx hb dX8_reach_56 rfl (lv_at hl 2 rfl) ?_
        refine lv_iload_n hx hb dX8_reach_57 rfl (lv_at hl 3 rfl) ?_
        refine mc_Vi (rest := [Value.int (nI qn), Value.ref wy2]) (wr := [(h0, Sum.inr (7, [Value.ref wy1, Value.ref wy2, Value.int (nI qn), Value.ref wy3, Value.ref wy4, Value.int cr])), (wy1, Sum.inl (wc1, 100, Sum.inl g_13)), (wy2, Sum.inl (wc2, 100, Sum.inl s2)), (q1, Sum.inl (cy1, 100, Sum.inl f1)), (q5, Sum.inl (cy5, 100, Sum.inl f5))]) F hK hP hD hS hA (c_spotOf l D rv q1 q2 q3 q4 q5 q6 w h i_3 j_4 ) ⟨gk_X8_121.1, gk_X8_121.2, Nat.le_of_ble_eq_true rfl, Nat.le_of_ble_eq_true rfl⟩ [5] [0, 1, 2, 3, 4] [] ⟨rfl, rfl, rfl, rfl, by decide⟩ rfl xT_move (fun _ _ _ => trivial) 5 rfl rfl rfl hl.1 rfl (Nat.le_of_ble_eq_true rfl) dX8_reach_58 ⟨Nat.le_of_ble_eq_true rfl, Nat.le_of_ble_eq_true rfl⟩ (fun r_14 _ H locs hw hK1 hP hD hS => ?_)
        have hP : va_P D vwCl [(h0, Sum.inr (7, [Value.ref wy1, Value.ref wy2, Value.int (nI qn), Value.ref wy3, Value.ref wy4, Value.int cr])), (wy1, Sum.inl (wc1, 100, Sum.inl g_13)), (wy2, Sum.inl (wc2, 100, Sum.inl s2)), (q1, Sum.inl (cy1, 100, Sum.inl f1)), (q5, Sum.inl (cy5, 100, Sum.inl f5)), (rv, Sum.inr (5, [Value.int (nI w), Value.int (nI h), Value.ref q1, Value.ref q2, Value.ref q3, Value.ref q4, Value.ref q5, Value.ref q6]))] H := hP
        have hD : va_D A [(h0, Sum.inr (7, [Value.ref wy1, Value.ref wy2, Value.int (nI qn), Value.ref wy3, Value.ref wy4, Value.int cr])), (wy1, Sum.inl (wc1, 100, Sum.inl g_13)), (wy2, Sum.inl (wc2, 100, Sum.inl s2)), (q1, Sum.inl (cy1, 100, Sum.inl f1)), (q5, Sum.inl (cy5, 100, Sum.inl f5)), (rv, Sum.inr (5, [Value.int (nI w), Value.int (nI h), Value.ref q1, Value.ref q2, Value.ref q3, Value.ref q4, Value.ref q5, Value.ref q6]))] := hD
        have hw_15 : r_14 = nI (j_4 * 10 + i_3) := hw
        obtain rfl : r_14 = nI (j_4 * 10 + i_3) := hw_15
        refine m_iast hx hb hK hP hD hS 2 1 rfl rfl qn rfl (by omega) (by decide) dX8_reach_61 (fun g_16 H locs eg_16 hP hD hS => ?_)
        have hP : va_P D vwCl [(h0, Sum.inr (7, [Value.ref wy1, Value.ref wy2, Value.int (nI qn), Value.ref wy3, Value.ref wy4, Value.int cr])), (wy1, Sum.inl (wc1, 100, Sum.inl g_13)), (wy2, Sum.inl (wc2, 100, Sum.inl g_16)), (q1, Sum.inl (cy1, 100, Sum.inl f1)), (q5, Sum.inl (cy5, 100, Sum.inl f5)), (rv, Sum.inr (5, [Value.int (nI w), Value.int (nI h), Value.ref q1, Value.ref q2, Value.ref q3, Value.ref q4, Value.ref q5, Value.ref q6]))] H := hP
        have hD : va_D A [(h0, Sum.inr (7, [Value.ref wy1, Value.ref wy2, Value.int (nI qn), Value.ref wy3, Value.ref wy4, Value.int cr])), (wy1, Sum.inl (wc1, 100, Sum.inl g_13)), (wy2, Sum.inl (wc2, 100, Sum.inl g_16)), (q1, Sum.inl (cy1, 100, Sum.inl f1)), (q5, Sum.inl (cy5, 100, Sum.inl f5)), (rv, Sum.inr (5, [Value.int (nI w), Value.int (nI h), Value.ref q1, Value.ref q2, Value.ref q3, Value.ref q4, Value.ref q5, Value.ref q6]))] := hD
        refine lv_aload_n hx hb dX8_reach_62 rfl (lv_at hl 0 rfl) ?_
        refine lv_dup hx hb dX8_reach_63 rfl ?_
        refine va_get (D := D) (ci := 7) (v := Value.int (nI qn)) (C := RX8) (T := TX8) (N := 6) hx hb hts inG_X8 hown hK hP 0 rfl rfl 2 (by decide) (hts _ kw_2_50) (fun _ h9 => h9) rfl dX8_reach_64 ?_
        refine lv_iconst (v := 1) hx hb dX8_reach_67 (by decide) ?_
        refine lv_iadd hx hb dX8_reach_68 ?_
        refine lv_topi (fun z_17 ez_17 => ?_)
        obtain rfl : z_17 = nI (qn + 1) := ez_17.trans (nI_add qn 1)
        refine va_put (D := D) (ci := 7) (v := Value.int (nI (qn + 1))) (ty := .int) (C := RX8) (T := TX8) (N := 6) hx hb hts inG_X8 tyX8 tyX8_ok nmX8 hown hK hP hD hS 0 rfl rfl 2 (by decide) (hts _ kw_2_50) (fun _ h9 => h9) rfl (by decide +kernel) rfl rfl (Nat.le_of_ble_eq_true rfl) dX8_reach_69 (fun H locs hP hD hS => ?_)
        have hP : va_P D vwCl [(h0, Sum.inr (7, [Value.ref wy1, Value.ref wy2, Value.int (nI (qn + 1)), Value.ref wy3, Value.ref wy4, Value.int cr])), (wy1, Sum.inl (wc1, 100, Sum.inl g_13)), (wy2, Sum.inl (wc2, 100, Sum.inl g_16)), (q1, Sum.inl (cy1, 100, Sum.inl f1)), (q5, Sum.inl (cy5, 100, Sum.inl f5)), (rv, Sum.inr (5, [Value.int (nI w), Value.int (nI h), Value.ref q1, Value.ref q2, Value.ref q3, Value.ref q4, Value.ref q5, Value.ref q6]))] H := hP
        have hD : va_D A [(h0, Sum.inr (7, [Value.ref wy1, Value.ref wy2, Value.int (nI (qn + 1)), Value.ref wy3, Value.ref wy4, Value.int cr])), (wy1, Sum.inl (wc1, 100, Sum.inl g_13)), (wy2, Sum.inl (wc2, 100, Sum.inl g_16)), (q1, Sum.inl (cy1, 100, Sum.inl f1)), (q5, Sum.inl (cy5, 100, Sum.inl f5)), (rv, Sum.inr (5, [Value.int (nI w), Value.int (nI h), Value.ref q1, Value.ref q2, Value.ref q3, Value.ref q4, Value.ref q5, Value.ref q6]))] := hD
        have hP9 := hP.sub (ws' := [(h0, Sum.inr (7, [Value.ref wy1, Value.ref wy2, Value.int (nI (qn + 1)), Value.ref wy3, Value.ref wy4, Value.int cr])), (wy1, Sum.inl (wc1, 100, Sum.inl g_13)), (wy2, Sum.inl (wc2, 100, Sum.inl g_16)), (rv, Sum.inr (5, [Value.int (nI w), Value.int (nI h), Value.ref q1, Value.ref q2, Value.ref q3, Value.ref q4, Value.ref q5, Value.ref q6])), (q1, Sum.inl (cy1, 100, Sum.inl f1)), (q5, Sum.inl (cy5, 100, Sum.inl f5))]) [0, 1, 2, 5, 3, 4] rfl
        have hD9 := hD.sub (ws' := [(h0, Sum.inr (7, [Value.ref wy1, Value.ref wy2, Value.int (nI (qn + 1)), Value.ref wy3, Value.ref wy4, Value.int cr])), (wy1, Sum.inl (wc1, 100, Sum.inl g_13)), (wy2, Sum.inl (wc2, 100, Sum.inl g_16)), (rv, Sum.inr (5, [Value.int (nI w), Value.int (nI h), Value.ref q1, Value.ref q2, Value.ref q3, Value.ref q4, Value.ref q5, Value.ref q6])), (q1, Sum.inl (cy1, 100, Sum.inl f1)), (q5, Sum.inl (cy5, 100, Sum.inl f5))]) [0, 1, 2, 5, 3, 4] (by decide) rfl
        have hK9 := hK.sub (tys' := []) [] rfl
        refine W.widen (k := 0) (n := 0) (by decide) (by decide) ?_
        exact W.vret hx hb hr (fun t ht hW => ⟨⟨(qn + 1, g_13, g_16), rfl, Or.inr ⟨hfi, by rw [hcl, ← ev_8]; exact c_9, by rw [hcl]; exact eg_13, by rw [hcl]; exact eg_16, rfl, by omega⟩, by rw [ht]; exact hP9, va_K.moved hW.alike hK9, hD9⟩, hS.F ht⟩) hS.2.2 dX8_reach_72
      · skip
        have c_10n : 100 ≤ qn := nb_lt (by omega) (by omega) c_10
        have hP9 := hP.sub (ws' := [(h0, Sum.inr (7, [Value.ref wy1, Value.ref wy2, Value.int (nI qn), Value.ref wy3, Value.ref wy4, Value.int cr])), (wy1, Sum.inl (wc1, 100, Sum.inl s1)), (wy2, Sum.inl (wc2, 100, Sum.inl s2)), (rv, Sum.inr (5, [Value.int (nI w), Value.int (nI h), Value.ref q1, Value.ref q2, Value.ref q3, Value.ref q4, Value.ref q5, Value.ref q6])), (q1, Sum.inl (cy1, 100, Sum.inl f1)), (q5, Sum.inl (cy5, 100, Sum.inl f5))]) [0, 1, 2, 5, 3, 4] rfl
        have hD9 := hD.sub (ws' := [(h0, Sum.inr (7, [Value.ref wy1, Value.ref wy2, Value.int (nI qn), Value.ref wy3, Value.ref wy4, Value.int cr])), (wy1, Sum.inl (wc1, 100, Sum.inl s1)), (wy2, Sum.inl (wc2, 100, Sum.inl s2)), (rv, Sum.inr (5, [Value.int (nI w), Value.int (nI h), Value.ref q1, Value.ref q2, Value.ref q3, Value.ref q4, Value.ref q5, Value.ref q6])), (q1, Sum.inl (cy1, 100, Sum.inl f1)), (q5, Sum.inl (cy5, 100, Sum.inl f5))]) [0, 1, 2, 5, 3, 4] (by decide) rfl
        have hK9 := hK.sub (tys' := []) [] rfl
        refine W.widen (k := 0) (n := 0) (by decide) (by decide) ?_
        exact W.vret hx hb hr (fun t ht hW => ⟨⟨(qn, s1, s2), rfl, Or.inl ⟨rfl, rfl, rfl, fun _ => Or.inr (by omega)⟩, by rw [ht]; exact hP9, va_K.moved hW.alike hK9, hD9⟩, hS.F ht⟩) hS.2.2 dX8_reach_33
  · skip
    subst hr9
    refine lv_if_eq (tgt := 33) hx hb dX8_reach_6 (by decide) (fun c_18 => ?_) (fun c_18 => absurd c_18 (by decide))
    have hP9 := hP.sub (ws' := [(h0, Sum.inr (7, [Value.ref wy1, Value.ref wy2, Value.int (nI qn), Value.ref wy3, Value.ref wy4, Value.int cr])), (wy1, Sum.inl (wc1, 100, Sum.inl s1)), (wy2, Sum.inl (wc2, 100, Sum.inl s2)), (rv, Sum.inr (5, [Value.int (nI w), Value.int (nI h), Value.ref q1, Value.ref q2, Value.ref q3, Value.ref q4, Value.ref q5, Value.ref q6])), (q1, Sum.inl (cy1, 100, Sum.inl f1)), (q5, Sum.inl (cy5, 100, Sum.inl f5))]) [0, 1, 2, 3, 4, 5] rfl
    have hD9 := hD.sub (ws' := [(h0, Sum.inr (7, [Value.ref wy1, Value.ref wy2, Value.int (nI qn), Value.ref wy3, Value.ref wy4, Value.int cr])), (wy1, Sum.inl (wc1, 100, Sum.inl s1)), (wy2, Sum.inl (wc2, 100, Sum.inl s2)), (rv, Sum.inr (5, [Value.int (nI w), Value.int (nI h), Value.ref q1, Value.ref q2, Value.ref q3, Value.ref q4, Value.ref q5, Value.ref q6])), (q1, Sum.inl (cy1, 100, Sum.inl f1)), (q5, Sum.inl (cy5, 100, Sum.inl f5))]) [0, 1, 2, 3, 4, 5] (by decide) rfl
    have hK9 := hK.sub (tys' := []) [] rfl
    refine W.widen (k := 0) (n := 0) (by decide) (by decide) ?_
    exact W.vret hx hb hr (fun t ht hW => ⟨⟨(qn, s1, s2), rfl, Or.inl ⟨rfl, rfl, rfl, fun q => absurd q hfi⟩, by rw [ht]; exact hP9, va_K.moved hW.alike hK9, hD9⟩, hS.F ht⟩) hS.2.2 dX8_reach_33
set_option maxHeartbeats 4000000 in
set_option maxRecDepth 100000 in
theorem s_stepsAt (l : Launch) (D : va_G) (h0 : Nat) (rv : Nat) (wy1 : Nat) (wy2 : Nat) (wy3 : Nat) (wy4 : Nat) (wc1 : ClassId) (s1 : Nat → Int32) (qd : Int32) (cr : Int32) (q1 : Nat) (q2 : Nat) (q3 : Nat) (q4 : Nat) (q5 : Nat) (q6 : Nat) (w : Nat) (h : Nat) (x : Int32) (y : Int32) (h3 : w ≤ 10) (h4 : h ≤ 10) : cI l yX8_stepsAt (.code yX8_stepsAt cX8_stepsAt 4 (some .int)) ({ frames := 1, cells := 0, slots := 0, locals := 22 }) D [(wc1, .int)] [(h0, Sum.inr (7, [Value.ref wy1, Value.ref wy2, Value.int qd, Value.ref wy3, Value.ref wy4, Value.int cr])), (wy1, Sum.inl (wc1, 100, Sum.inl s1)), (rv, Sum.inr (5, [Value.int (nI w), Value.int (nI h), Value.ref q1, Value.ref q2, Value.ref q3, Value.ref q4, Value.ref q5, Value.ref q6]))] xT [Value.ref h0, Value.ref rv, Value.int x, Value.int y] (S := Unit) (fun r _ => ((x < 0 ∨ ¬ x < nI w ∨ y < 0 ∨ ¬ y < nI h) ∧ r = (-1)) ∨ (¬ (x < 0 ∨ ¬ x < nI w ∨ y < 0 ∨ ¬ y < nI h) ∧ r = s1 (cl x y))) (fun _ => []) (fun _ => [(h0, Sum.inr (7, [Value.ref wy1, Value.ref wy2, Value.int qd, Value.ref wy3, Value.ref wy4, Value.int cr])), (wy1, Sum.inl (wc1, 100, Sum.inl s1)), (rv, Sum.inr (5, [Value.int (nI w), Value.int (nI h), Value.ref q1, Value.ref q2, Value.ref q3, Value.ref q4, Value.ref q5, Value.ref q6]))]) := by
  intro sz
  refine Met.ofW (cc := cX8_stepsAt) (maxL := 4) (ret := (some .int)) (by decide) rfl ?_
  intro p e s m args below meth c s₁ B hml hv
  obtain ⟨rfl, hsz, hP, hK, hD0, hX⟩ := hv
  have hx := B.exec
  have hb := B.bytes
  have hr := B.returns
  have hts0 := atoms_spec (ws := .code yX8_stepsAt cX8_stepsAt 4 (some .int) :: gw) B.pre
  have hts := fun (w : Cond) (h : w ∈ gw) => hts0 w (List.mem_cons_of_mem _ h)
  have hown : s.vm.findClass RX8 = some m.cls := findClass_of_methodNamed B.named
  have hlocks := B.notSynchronized
  have F : mFix p s m _ c cX8_stepsAt 4 RX8 := ⟨hx, hb, hml, hown, hts⟩
  subst hsz
  have hD := hD0.self (sz := s.heap.size)
  generalize hAe : va_A [(h0, Sum.inr (7, [Value.ref wy1, Value.ref wy2, Value.int qd, Value.ref wy3, Value.ref wy4, Value.int cr])), (wy1, Sum.inl (wc1, 100, Sum.inl s1)), (rv, Sum.inr (5, [Value.int (nI w), Value.int (nI h), Value.ref q1, Value.ref q2, Value.ref q3, Value.ref q4, Value.ref q5, Value.ref q6]))] s.heap.size = A at hD hX ⊢
  have hA : ∀ q : Nat, s.heap.size ≤ q → A q := fun q h => by rw [← hAe]; exact Or.inr h
  have hS : va_S A s.heap s.heap [] := va_S.rf
  have hl := lv_entry ([Value.ref h0, Value.ref rv, Value.int x, Value.int y]) (n := 4) (Nat.le_of_ble_eq_true rfl)
  rw [lg_entry_eq]
  generalize (lg_sl ([Value.ref h0, Value.ref rv, Value.int x, Value.int y]) ++ List.replicate (4 - (lg_sl ([Value.ref h0, Value.ref rv, Value.int x, Value.int y])).length) Slot.unset).toArray = ls at hl ⊢
  have hl : lv_has ls 4 [(0, Value.ref h0), (1, Value.ref rv), (2, Value.int x), (3, Value.int y)] := hl
  have hP : va_P D vwCl [(h0, Sum.inr (7, [Value.ref wy1, Value.ref wy2, Value.int qd, Value.ref wy3, Value.ref wy4, Value.int cr])), (wy1, Sum.inl (wc1, 100, Sum.inl s1)), (rv, Sum.inr (5, [Value.int (nI w), Value.int (nI h), Value.ref q1, Value.ref q2, Value.ref q3, Value.ref q4, Value.ref q5, Value.ref q6]))] s.heap := hP
  refine lv_aload_n hx hb dX8_stepsAt_0 rfl (lv_at hl 1 rfl) ?_
  refine lv_iload_n hx hb dX8_stepsAt_1 rfl (lv_at hl 2 rfl) ?_
  refine lv_iload_n hx hb dX8_stepsAt_2 rfl (lv_at hl 3 rfl) ?_
  refine mc_Vi (rest := []) (wr := [(h0, Sum.inr (7, [Value.ref wy1, Value.ref wy2, Value.int qd, Value.ref wy3, Value.ref wy4, Value.int cr])), (wy1, Sum.inl (wc1, 100, Sum.inl s1))]) F hK hP hD hS hA (c_has_any l D rv q1 q2 q3 q4 q5 q6 w h x y (by omega) (by omega)) ⟨gk_X8_127.1, gk_X8_127.2, Nat.le_of_ble_eq_true rfl, Nat.le_of_ble_eq_true rfl⟩ [2] [0, 1] [] ⟨rfl, rfl, rfl, rfl, by decide⟩ rfl xT_move (fun _ _ _ => trivial) 2 rfl rfl rfl hl.1 rfl (Nat.le_of_ble_eq_true rfl) dX8_stepsAt_3 ⟨Nat.le_of_ble_eq_true rfl, Nat.le_of_ble_eq_true rfl⟩ (fun r_1 _ H locs hw hK1 hP hD hS => ?_)
  have hP : va_P D vwCl [(h0, Sum.inr (7, [Value.ref wy1, Value.ref wy2, Value.int qd, Value.ref wy3, Value.ref wy4, Value.int cr])), (wy1, Sum.inl (wc1, 100, Sum.inl s1)), (rv, Sum.inr (5, [Value.int (nI w), Value.int (nI h), Value.ref q1, Value.ref q2, Value.ref q3, Value.ref q4, Value.ref q5, Value.ref q6]))] H := hP
  have hD : va_D A [(h0, Sum.inr (7, [Value.ref wy1, Value.ref wy2, Value.int qd, Value.ref wy3, Value.ref wy4, Value.int cr])), (wy1, Sum.inl (wc1, 100, Sum.inl s1)), (rv, Sum.inr (5, [Value.int (nI w), Value.int (nI h), Value.ref q1, Value.ref q2, Value.ref q3, Value.ref q4, Value.ref q5, Value.ref q6]))] := hD
  have hw_2 : r_1 = (if (x < 0 ∨ ¬ x < nI w ∨ y < 0 ∨ ¬ y < nI h) then 0 else 1) := hw
  by_cases ho_3 : (x < 0 ∨ ¬ x < nI w ∨ y < 0 ∨ ¬ y < nI h)
  · skip
    obtain rfl : r_1 = 0 := by rw [hw_2, if_pos ho_3]
    have hzo := out_z (by omega) (by omega) ho_3
    refine lv_if_eq (tgt := 23) hx hb dX8_stepsAt_6 (by decide) (fun c_4 => ?_) (fun c_4 => absurd c_4 (by decide))
    refine lv_iconst (v := -1) hx hb dX8_stepsAt_23 (by decide) ?_
    have hP9 := hP.sub (ws' := [(h0, Sum.inr (7, [Value.ref wy1, Value.ref wy2, Value.int qd, Value.ref wy3, Value.ref wy4, Value.int cr])), (wy1, Sum.inl (wc1, 100, Sum.inl s1)), (rv, Sum.inr (5, [Value.int (nI w), Value.int (nI h), Value.ref q1, Value.ref q2, Value.ref q3, Value.ref q4, Value.ref q5, Value.ref q6]))]) [0, 1, 2] rfl
    have hD9 := hD.sub (ws' := [(h0, Sum.inr (7, [Value.ref wy1, Value.ref wy2, Value.int qd, Value.ref wy3, Value.ref wy4, Value.int cr])), (wy1, Sum.inl (wc1, 100, Sum.inl s1)), (rv, Sum.inr (5, [Value.int (nI w), Value.int (nI h), Value.ref q1, Value.ref q2, Value.ref q3, Value.ref q4, Value.ref q5, Value.ref q6]))]) [0, 1, 2] (by decide) rfl
    have hK9 := hK.sub (tys' := []) [] rfl
    refine W.widen (k := 0) (n := 0) (by decide) (by decide) ?_
    exact W.iret (v := (-1)) hx hb hr (fun t ht hW => ⟨⟨((-1)), (), rfl, Or.inl ⟨ho_3, rfl⟩, by rw [ht]; exact hP9, va_K.moved hW.alike hK9, hD9⟩, hS.F ht⟩) hS.2.2 dX8_stepsAt_24
  · skip
    obtain rfl : r_1 = 1 := by rw [hw_2, if_neg ho_3]
    obtain ⟨i_5, hi_5, ei_5⟩ : ∃ j : Nat, j < w ∧ x = nI j := n_lt (fun q => ho_3 (Or.inl q)) (fun q => ho_3 (Or.inr (Or.inl (Int32.not_lt.mpr q)))) (by omega)
    obtain ⟨j_6, hj_6, ej_6⟩ : ∃ j : Nat, j < h ∧ y = nI j := n_lt (fun q => ho_3 (Or.inr (Or.inr (Or.inl q)))) (fun q => ho_3 (Or.inr (Or.inr (Or.inr (Int32.not_lt.mpr q))))) (by omega)
    have hzi_5 := in_z ei_5 (by omega)
    have hzj_6 := in_z ej_6 (by omega)
    subst ei_5
    subst ej_6
    have hcl : cl (nI i_5) (nI j_6) = j_6 * 10 + i_5 := cl_nI (by omega) (by omega)
    have hl : lv_has ls 4 [(0, Value.ref h0), (1, Value.ref rv), (2, Value.int (nI i_5)), (3, Value.int (nI j_6))] := hl
    refine lv_if_eq (tgt := 23) hx hb dX8_stepsAt_6 (by decide) (fun c_7 => absurd c_7 (by decide)) (fun c_7 => ?_)
    refine lv_aload_n hx hb dX8_stepsAt_9 rfl (lv_at hl 0 rfl) ?_
    refine va_get (D := D) (ci := 7) (v := Value.ref wy1) (C := RX8) (T := TX8) (N := 6) hx hb hts inG_X8 hown hK hP 0 rfl rfl 0 (by decide) (hts _ kw_2_48) (fun _ h9 => h9) rfl dX8_stepsAt_10 ?_
    refine lv_aload_n hx hb dX8_stepsAt_13 rfl (lv_at hl 1 rfl) ?_
    refine lv_iload_n hx hb dX8_stepsAt_14 rfl (lv_at hl 2 rfl) ?_
    refine lv_iload_n hx hb dX8_stepsAt_15 rfl (lv_at hl 3 rfl) ?_
    refine mc_Vi (rest := [Value.ref wy1]) (wr := [(h0, Sum.inr (7, [Value.ref wy1, Value.ref wy2, Value.int qd, Value.ref wy3, Value.ref wy4, Value.int cr])), (wy1, Sum.inl (wc1, 100, Sum.inl s1))]) F hK hP hD hS hA (c_spotOf l D rv q1 q2 q3 q4 q5 q6 w h i_5 j_6 ) ⟨gk_X8_121.1, gk_X8_121.2, Nat.le_of_ble_eq_true rfl, Nat.le_of_ble_eq_true rfl⟩ [2] [0, 1] [] ⟨rfl, rfl, rfl, rfl, by decide⟩ rfl xT_move (fun _ _ _ => trivial) 2 rfl rfl rfl hl.1 rfl (Nat.le_of_ble_eq_true rfl) dX8_stepsAt_16 ⟨Nat.le_of_ble_eq_true rfl, Nat.le_of_ble_eq_true rfl⟩ (fun r_8 _ H locs hw hK1 hP hD hS => ?_)
    have hP : va_P D vwCl [(h0, Sum.inr (7, [Value.ref wy1, Value.ref wy2, Value.int qd, Value.ref wy3, Value.ref wy4, Value.int cr])), (wy1, Sum.inl (wc1, 100, Sum.inl s1)), (rv, Sum.inr (5, [Value.int (nI w), Value.int (nI h), Value.ref q1, Value.ref q2, Value.ref q3, Value.ref q4, Value.ref q5, Value.ref q6]))] H := hP
    have hD : va_D A [(h0, Sum.inr (7, [Value.ref wy1, Value.ref wy2, Value.int qd, Value.ref wy3, Value.ref wy4, Value.int cr])), (wy1, Sum.inl (wc1, 100, Sum.inl s1)), (rv, Sum.inr (5, [Value.int (nI w), Value.int (nI h), Value.ref q1, Value.ref q2, Value.ref q3, Value.ref q4, Value.ref q5, Value.ref q6]))] := hD
    have hw_9 : r_8 = nI (j_6 * 10 + i_5) := hw
    obtain rfl : r_8 = nI (j_6 * 10 + i_5) := hw_9
    refine m_iald hx hb hK hP 1 0 rfl rfl (j_6 * 10 + i_5) rfl (by omega) (by decide) dX8_stepsAt_19 ?_
    refine lv_topi (fun v_10 ev_10 => ?_)
    refine lv_goto (tgt := 24) hx hb dX8_stepsAt_20 (by decide) ?_
    have hP9 := hP.sub (ws' := [(h0, Sum.inr (7, [Value.ref wy1, Value.ref wy2, Value.int qd, Value.ref wy3, Value.ref wy4, Value.int cr])), (wy1, Sum.inl (wc1, 100, Sum.inl s1)), (rv, Sum.inr (5, [Value.int (nI w), Value.int (nI h), Value.ref q1, Value.ref q2, Value.ref q3, Value.ref q4, Value.ref q5, Value.ref q6]))]) [0, 1, 2] rfl
    have hD9 := hD.sub (ws' := [(h0, Sum.inr (7, [Value.ref wy1, Value.ref wy2, Value.int qd, Value.ref wy3, Value.ref wy4, Value.int cr])), (wy1, Sum.inl (wc1, 100, Sum.inl s1)), (rv, Sum.inr (5, [Value.int (nI w), Value.int (nI h), Value.ref q1, Value.ref q2, Value.ref q3, Value.ref q4, Value.ref q5, Value.ref q6]))]) [0, 1, 2] (by decide) rfl
    have hK9 := hK.sub (tys' := []) [] rfl
    refine W.widen (k := 0) (n := 0) (by decide) (by decide) ?_
    exact W.iret (v := v_10) hx hb hr (fun t ht hW => ⟨⟨v_10, (), rfl, Or.inr ⟨ho_3, by rw [hcl]; exact ev_10⟩, by rw [ht]; exact hP9, va_K.moved hW.alike hK9, hD9⟩, hS.F ht⟩) hS.2.2 dX8_stepsAt_24
