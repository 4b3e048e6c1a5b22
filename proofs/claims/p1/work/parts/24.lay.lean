theorem dX6_isFirm_0 : decode cX6_isFirm 0 = .ok (.aload_n 0, 1) := by decide +kernel
theorem dX6_isFirm_1 : decode cX6_isFirm 1 = .ok (.iload_n 1, 1) := by decide +kernel
theorem dX6_isFirm_2 : decode cX6_isFirm 2 = .ok (.iload_n 2, 1) := by decide +kernel
theorem dX6_isFirm_3 : decode cX6_isFirm 3 = .ok (.invokevirtual 42, 3) := by decide +kernel
theorem dX6_isFirm_6 : decode cX6_isFirm 6 = .ok (.ifCond .ne 5, 3) := by decide +kernel
theorem dX6_isFirm_11 : decode cX6_isFirm 11 = .ok (.aload_n 0, 1) := by decide +kernel
theorem dX6_isFirm_12 : decode cX6_isFirm 12 = .ok (.iload_n 1, 1) := by decide +kernel
theorem dX6_isFirm_13 : decode cX6_isFirm 13 = .ok (.iload_n 2, 1) := by decide +kernel
theorem dX6_isFirm_14 : decode cX6_isFirm 14 = .ok (.invokevirtual 46, 3) := by decide +kernel
theorem dX6_isFirm_17 : decode cX6_isFirm 17 = .ok (.istore_n 3, 1) := by decide +kernel
theorem dX6_isFirm_18 : decode cX6_isFirm 18 = .ok (.aload_n 0, 1) := by decide +kernel
theorem dX6_isFirm_19 : decode cX6_isFirm 19 = .ok (.getfield 9, 3) := by decide +kernel
theorem dX6_isFirm_22 : decode cX6_isFirm 22 = .ok (.iload_n 3, 1) := by decide +kernel
theorem dX6_isFirm_23 : decode cX6_isFirm 23 = .ok (.iaload, 1) := by decide +kernel
theorem dX6_isFirm_24 : decode cX6_isFirm 24 = .ok (.ifCond .le 16, 3) := by decide +kernel
theorem dX6_isFirm_40 : decode cX6_isFirm 40 = .ok (.iconst 0, 1) := by decide +kernel
theorem dX6_isFirm_41 : decode cX6_isFirm 41 = .ok (.ireturn, 1) := by decide +kernel
set_option maxHeartbeats 4000000 in
set_option maxRecDepth 100000 in
theorem c_isFirm0 (l : Launch) (D : va_G) (h0 : Nat) (q1 : Nat) (q2 : Nat) (q3 : Nat) (q4 : Nat) (q5 : Nat) (q6 : Nat) (cy1 : ClassId) (w : Nat) (h : Nat) (i : Nat) (j : Nat) (h3 : w ≤ 10) (h4 : h ≤ 10) (h1 : i < w) (h2 : j < h) : cI l yX6_isFirm (.code yX6_isFirm cX6_isFirm 4 (some .boolean)) ({ frames := 1, cells := 0, slots := 0, locals := 22 }) D [(cy1, .int)] [(h0, .inr (5, [.int (nI w), .int (nI h), .ref q1, .ref q2, .ref q3, .ref q4, .ref q5, .ref q6])), (q1, .inl (cy1, 100, .inl (fun _ => 0)))] xT [.ref h0, .int (nI i), .int (nI j)] (S := Unit) (fun r _ => r = 0) (fun _ => []) (fun _ => [(h0, .inr (5, [.int (nI w), .int (nI h), .ref q1, .ref q2, .ref q3, .ref q4, .ref q5, .ref q6])), (q1, .inl (cy1, 100, .inl (fun _ => 0)))]) := by
  intro sz
  refine Met.ofW (cc := cX6_isFirm) (maxL := 4) (ret := (some .boolean)) (by decide) rfl ?_
  intro p e s m args below meth c s₁ B hml hv
  obtain ⟨rfl, hsz, hP, hK, hD0, hX⟩ := hv
  have hx := B.exec
  have hb := B.bytes
  have hr := B.returns
  have hts0 := atoms_spec (ws := .code yX6_isFirm cX6_isFirm 4 (some .boolean) :: gw) B.pre
  have hts := fun (w : Cond) (h : w ∈ gw) => hts0 w (List.mem_cons_of_mem _ h)
  have hown : s.vm.findClass RX6 = some m.cls := findClass_of_methodNamed B.named
  have hlocks := B.notSynchronized
  have F : mFix p s m _ c cX6_isFirm 4 RX6 := ⟨hx, hb, hml, hown, hts⟩
  subst hsz
  have hD := hD0.self (sz := s.heap.size)
  generalize hAe : va_A [(h0, .inr (5, [.int (nI w), .int (nI h), .ref q1, .ref q2, .ref q3, .ref q4, .ref q5, .ref q6])), (q1, .inl (cy1, 100, .inl (fun _ => 0)))] s.heap.size = A at hD hX ⊢
  have hA : ∀ q : Nat, s.heap.size ≤ q → A q := fun q h => by rw [← hAe]; exact Or.inr h
  have hS : va_S A s.heap s.heap [] := va_S.rf
  have hl := lv_entry ([.ref h0, .int (nI i), .int (nI j)]) (n := 4) (Nat.le_of_ble_eq_true rfl)
  rw [lg_entry_eq]
  generalize (lg_sl ([.ref h0, .int (nI i), .int (nI j)]) ++ List.replicate (4 - (lg_sl ([.ref h0, .int (nI i), .int (nI j)])).length) Slot.unset).toArray = ls at hl ⊢
  have hl : lv_has ls 4 [(0, .ref h0), (1, .int (nI i)), (2, .int (nI j))] := hl
  have hP : va_P D vwCl [(h0, .inr (5, [.int (nI w), .int (nI h), .ref q1, .ref q2, .ref q3, .ref q4, .ref q5, .ref q6])), (q1, .inl (cy1, 100, .inl (fun _ => 0)))] s.heap := hP
  refine lv_aload_n hx hb dX6_isFirm_0 rfl (lv_at hl 0 rfl) ?_
  refine lv_iload_n hx hb dX6_isFirm_1 rfl (lv_at hl 1 rfl) ?_
  refine lv_iload_n hx hb dX6_isFirm_2 rfl (lv_at hl 2 rfl) ?_
  refine mc_Vi (rest := []) (wr := [(q1, .inl (cy1, 100, .inl (fun _ => 0)))]) F hK hP hD hS hA (c_has_in l D h0 q1 q2 q3 q4 q5 q6 w h i j (by omega) (by omega) (by omega) (by omega)) ⟨gk_X6_42.1, gk_X6_42.2, Nat.le_of_ble_eq_true rfl, Nat.le_of_ble_eq_true rfl⟩ [0] [1] [] ⟨rfl, rfl, rfl, rfl, by decide⟩ rfl xT_move (fun _ _ _ => trivial) 0 rfl rfl rfl hl.1 rfl (Nat.le_of_ble_eq_true rfl) dX6_isFirm_3 ⟨Nat.le_of_ble_eq_true rfl, Nat.le_of_ble_eq_true rfl⟩ (fun r_1 _ H locs hw hK1 hP hD hS => ?_)
  have hP : va_P D vwCl [(q1, .inl (cy1, 100, .inl (fun _ => 0))), (h0, .inr (5, [.int (nI w), .int (nI h), .ref q1, .ref q2, .ref q3, .ref q4, .ref q5, .ref q6]))] H := hP
  have hD : va_D A [(q1, .inl (cy1, 100, .inl (fun _ => 0))), (h0, .inr (5, [.int (nI w), .int (nI h), .ref q1, .ref q2, .ref q3, .ref q4, .ref q5, .ref q6]))] := hD
  have hw_2 : r_1 = 1 := hw
  obtain rfl : r_1 = 1 := hw_2
  refine lv_if_ne (tgt := 11) hx hb dX6_isFirm_6 (by decide) (fun c_3 => ?_) (fun c_3 => absurd c_3 (by decide))
  refine lv_aload_n hx hb dX6_isFirm_11 rfl (lv_at hl 0 rfl) ?_
  refine lv_iload_n hx hb dX6_isFirm_12 rfl (lv_at hl 1 rfl) ?_
  refine lv_iload_n hx hb dX6_isFirm_13 rfl (lv_at hl 2 rfl) ?_
  refine mc_Vi (rest := []) (wr := [(q1, .inl (cy1, 100, .inl (fun _ => 0)))]) F hK hP hD hS hA (c_spotOf l D h0 q1 q2 q3 q4 q5 q6 w h i j ) ⟨gk_X6_46.1, gk_X6_46.2, Nat.le_of_ble_eq_true rfl, Nat.le_of_ble_eq_true rfl⟩ [1] [0] [] ⟨rfl, rfl, rfl, rfl, by decide⟩ rfl xT_move (fun _ _ _ => trivial) 1 rfl rfl rfl hl.1 rfl (Nat.le_of_ble_eq_true rfl) dX6_isFirm_14 ⟨Nat.le_of_ble_eq_true rfl, Nat.le_of_ble_eq_true rfl⟩ (fun r_4 _ H locs hw hK1 hP hD hS => ?_)
  have hP : va_P D vwCl [(q1, .inl (cy1, 100, .inl (fun _ => 0))), (h0, .inr (5, [.int (nI w), .int (nI h), .ref q1, .ref q2, .ref q3, .ref q4, .ref q5, .ref q6]))] H := hP
  have hD : va_D A [(q1, .inl (cy1, 100, .inl (fun _ => 0))), (h0, .inr (5, [.int (nI w), .int (nI h), .ref q1, .ref q2, .ref q3, .ref q4, .ref q5, .ref q6]))] := hD
  have hw_5 : r_4 = nI (j * 10 + i) := hw
  obtain rfl : r_4 = nI (j * 10 + i) := hw_5
  refine lv_istore_n (lv' := [(3, .int (nI (j * 10 + i))), (0, .ref h0), (1, .int (nI i)), (2, .int (nI j))]) hx hb dX6_isFirm_17 rfl hl (by decide) rfl (fun ls hl => ?_)
  refine lv_aload_n hx hb dX6_isFirm_18 rfl (lv_at hl 1 rfl) ?_
  refine va_get (D := D) (ci := 5) (v := .ref q1) (C := RX6) (T := TX6) (N := 8) hx hb hts inG_X6 hown hK hP 1 rfl rfl 2 (by decide) (hts _ kw_1_148) (fun _ h9 => h9) rfl dX6_isFirm_19 ?_
  refine lv_iload_n hx hb dX6_isFirm_22 rfl (lv_at hl 0 rfl) ?_
  refine m_iald hx hb hK hP 0 0 rfl rfl (j * 10 + i) rfl (by omega) (by decide) dX6_isFirm_23 ?_
  refine lv_if_le (tgt := 40) hx hb dX6_isFirm_24 (by decide) (fun c_6 => ?_) (fun c_6 => absurd c_6 (by decide))
  refine lv_iconst (v := 0) hx hb dX6_isFirm_40 (by decide) ?_
  have hP9 := hP.sub (ws' := [(h0, .inr (5, [.int (nI w), .int (nI h), .ref q1, .ref q2, .ref q3, .ref q4, .ref q5, .ref q6])), (q1, .inl (cy1, 100, .inl (fun _ => 0)))]) [1, 0] rfl
  have hD9 := hD.sub (ws' := [(h0, .inr (5, [.int (nI w), .int (nI h), .ref q1, .ref q2, .ref q3, .ref q4, .ref q5, .ref q6])), (q1, .inl (cy1, 100, .inl (fun _ => 0)))]) [1, 0] (by decide) rfl
  have hK9 := hK.sub (tys' := []) [] rfl
  refine W.widen (k := 0) (n := 0) (by decide) (by decide) ?_
  exact W.zret (v := 0) hx hb hr rfl (fun t ht hW => ⟨⟨0, (), rfl, rfl, by rw [ht]; exact hP9, va_K.moved hW.alike hK9, hD9⟩, hS.F ht⟩) hS.2.2 dX6_isFirm_41
theorem dX6_isOpen_0 : decode cX6_isOpen 0 = .ok (.aload_n 0, 1) := by decide +kernel
theorem dX6_isOpen_1 : decode cX6_isOpen 1 = .ok (.iload_n 1, 1) := by decide +kernel
theorem dX6_isOpen_2 : decode cX6_isOpen 2 = .ok (.iload_n 2, 1) := by decide +kernel
theorem kw_3_43 : Cond.methodLink RX6 50 yX6_isFirm ∈ gw := gw_t3 (List.mem_of_getElem? (i := 43) (by decide +kernel)) (by decide +kernel)
theorem kw_3_44 : Cond.instanceMethod yX6_isFirm ∈ gw := gw_t3 (List.mem_of_getElem? (i := 44) (by decide +kernel)) (by decide +kernel)
theorem kw_3_45 : Cond.selects RX6 yX6_isFirm yX6_isFirm ∈ gw := gw_t3 (List.mem_of_getElem? (i := 45) (by decide +kernel)) (by decide +kernel)
theorem kw_3_46 : Cond.code yX6_isFirm cX6_isFirm 4 (some .boolean) ∈ gw := gw_t3 (List.mem_of_getElem? (i := 46) (by decide +kernel)) (by decide +kernel)
theorem gk_X6_50 : GoodIn gw (wsV RX6 50 RX6 yX6_isFirm (.code yX6_isFirm cX6_isFirm 4 (some .boolean) :: gw)) ∧ (yX6_isFirm.cls = RX6 ∧ yX6_isFirm.cls ≠ "java/lang/invoke/MethodHandle" ∧ yX6_isFirm.cls ≠ "java/lang/invoke/VarHandle" ∧ (parseMethodDescriptor yX6_isFirm.desc).map (fun d => d.parameters.length) = some 2) := ⟨gi_V kw_3_43 kw_3_44 kw_3_45 kw_1_7 kw_3_46, by decide +kernel⟩
theorem dX6_isOpen_3 : decode cX6_isOpen 3 = .ok (.invokevirtual 50, 3) := by decide +kernel
theorem dX6_isOpen_6 : decode cX6_isOpen 6 = .ok (.ifCond .eq 22, 3) := by decide +kernel
theorem dX6_isOpen_28 : decode cX6_isOpen 28 = .ok (.iconst 0, 1) := by decide +kernel
theorem dX6_isOpen_29 : decode cX6_isOpen 29 = .ok (.ireturn, 1) := by decide +kernel
set_option maxHeartbeats 4000000 in
set_option maxRecDepth 100000 in
theorem c_isOpen0 (l : Launch) (D : va_G) (h0 : Nat) (q1 : Nat) (q2 : Nat) (q3 : Nat) (q4 : Nat) (q5 : Nat) (q6 : Nat) (cy1 : ClassId) (w : Nat) (h : Nat) (i : Nat) (j : Nat) (h3 : w ≤ 10) (h4 : h ≤ 10) (h1 : i < w) (h2 : j < h) : cI l yX6_isOpen (.code yX6_isOpen cX6_isOpen 3 (some .boolean)) ({ frames := 2, cells := 0, slots := 0, locals := 45 }) D [(cy1, .int)] [(h0, .inr (5, [.int (nI w), .int (nI h), .ref q1, .ref q2, .ref q3, .ref q4, .ref q5, .ref q6])), (q1, .inl (cy1, 100, .inl (fun _ => 0)))] xT [.ref h0, .int (nI i), .int (nI j)] (S := Unit) (fun r _ => r = 0) (fun _ => []) (fun _ => [(h0, .inr (5, [.int (nI w), .int (nI h), .ref q1, .ref q2, .ref q3, .ref q4, .ref q5, .ref q6])), (q1, .inl (cy1, 100, .inl (fun _ => 0)))]) := by
  intro sz
  refine Met.ofW (cc := cX6_isOpen) (maxL := 3) (ret := (some .boolean)) (by decide) rfl ?_
  intro p e s m args below meth c s₁ B hml hv
  obtain ⟨rfl, hsz, hP, hK, hD0, hX⟩ := hv
  have hx := B.exec
  have hb := B.bytes
  have hr := B.returns
  have hts0 := atoms_spec (ws := .code yX6_isOpen cX6_isOpen 3 (some .boolean) :: gw) B.pre
  have hts := fun (w : Cond) (h : w ∈ gw) => hts0 w (List.mem_cons_of_mem _ h)
  have hown : s.vm.findClass RX6 = some m.cls := findClass_of_methodNamed B.named
  have hlocks := B.notSynchronized
  have F : mFix p s m _ c cX6_isOpen 3 RX6 := ⟨hx, hb, hml, hown, hts⟩
  subst hsz
  have hD := hD0.self (sz := s.heap.size)
  generalize hAe : va_A [(h0, .inr (5, [.int (nI w), .int (nI h), .ref q1, .ref q2, .ref q3, .ref q4, .ref q5, .ref q6])), (q1, .inl (cy1, 100, .inl (fun _ => 0)))] s.heap.size = A at hD hX ⊢
  have hA : ∀ q : Nat, s.heap.size ≤ q → A q := fun q h => by rw [← hAe]; exact Or.inr h
  have hS : va_S A s.heap s.heap [] := va_S.rf
  have hl := lv_entry ([.ref h0, .int (nI i), .int (nI j)]) (n := 3) (Nat.le_of_ble_eq_true rfl)
  rw [lg_entry_eq]
  generalize (lg_sl ([.ref h0, .int (nI i), .int (nI j)]) ++ List.replicate (3 - (lg_sl ([.ref h0, .int (nI i), .int (nI j)])).length) Slot.unset).toArray = ls at hl ⊢
  have hl : lv_has ls 3 [(0, .ref h0), (1, .int (nI i)), (2, .int (nI j))] := hl
  have hP : va_P D vwCl [(h0, .inr (5, [.int (nI w), .int (nI h), .ref q1, .ref q2, .ref q3, .ref q4, .ref q5, .ref q6])), (q1, .inl (cy1, 100, .inl (fun _ => 0)))] s.heap := hP
  refine lv_aload_n hx hb dX6_isOpen_0 rfl (lv_at hl 0 rfl) ?_
  refine lv_iload_n hx hb dX6_isOpen_1 rfl (lv_at hl 1 rfl) ?_
  refine lv_iload_n hx hb dX6_isOpen_2 rfl (lv_at hl 2 rfl) ?_
  refine mc_Vi (rest := []) (wr := []) F hK hP hD hS hA (c_isFirm0 l D h0 q1 q2 q3 q4 q5 q6 cy1 w h i j (by omega) (by omega) (by omega) (by omega)) ⟨gk_X6_50.1, gk_X6_50.2, Nat.le_of_ble_eq_true rfl, Nat.le_of_ble_eq_true rfl⟩ [0, 1] [] [0] ⟨rfl, rfl, rfl, rfl, by decide⟩ rfl xT_move (fun _ _ _ => trivial) 0 rfl rfl rfl hl.1 rfl (Nat.le_of_ble_eq_true rfl) dX6_isOpen_3 ⟨Nat.le_of_ble_eq_true rfl, Nat.le_of_ble_eq_true rfl⟩ (fun r_1 _ H locs hw hK1 hP hD hS => ?_)
  have hP : va_P D vwCl [(h0, .inr (5, [.int (nI w), .int (nI h), .ref q1, .ref q2, .ref q3, .ref q4, .ref q5, .ref q6])), (q1, .inl (cy1, 100, .inl (fun _ => 0)))] H := hP
  have hD : va_D A [(h0, .inr (5, [.int (nI w), .int (nI h), .ref q1, .ref q2, .ref q3, .ref q4, .ref q5, .ref q6])), (q1, .inl (cy1, 100, .inl (fun _ => 0)))] := hD
  have hw_2 : r_1 = 0 := hw
  obtain rfl : r_1 = 0 := hw_2
  refine lv_if_eq (tgt := 28) hx hb dX6_isOpen_6 (by decide) (fun c_3 => ?_) (fun c_3 => absurd c_3 (by decide))
  refine lv_iconst (v := 0) hx hb dX6_isOpen_28 (by decide) ?_
  have hP9 := hP.sub (ws' := [(h0, .inr (5, [.int (nI w), .int (nI h), .ref q1, .ref q2, .ref q3, .ref q4, .ref q5, .ref q6])), (q1, .inl (cy1, 100, .inl (fun _ => 0)))]) [0, 1] rfl
  have hD9 := hD.sub (ws' := [(h0, .inr (5, [.int (nI w), .int (nI h), .ref q1, .ref q2, .ref q3, .ref q4, .ref q5, .ref q6])), (q1, .inl (cy1, 100, .inl (fun _ => 0)))]) [0, 1] (by decide) rfl
  have hK9 := hK.sub (tys' := []) [] rfl
  refine W.widen (k := 0) (n := 0) (by decide) (by decide) ?_
  exact W.zret (v := 0) hx hb hr rfl (fun t ht hW => ⟨⟨0, (), rfl, rfl, by rw [ht]; exact hP9, va_K.moved hW.alike hK9, hD9⟩, hS.F ht⟩) hS.2.2 dX6_isOpen_29
theorem dX6_bearsAll_12 : decode cX6_bearsAll 12 = .ok (.iload_n 3, 1) := by decide +kernel
theorem dX6_bearsAll_13 : decode cX6_bearsAll 13 = .ok (.aload_n 0, 1) := by decide +kernel
theorem dX6_bearsAll_14 : decode cX6_bearsAll 14 = .ok (.getfield 35, 3) := by decide +kernel
theorem dX6_bearsAll_17 : decode cX6_bearsAll 17 = .ok (.if_icmp .ge 36, 3) := by decide +kernel
theorem dX6_bearsAll_20 : decode cX6_bearsAll 20 = .ok (.aload_n 0, 1) := by decide +kernel
theorem dX6_bearsAll_21 : decode cX6_bearsAll 21 = .ok (.iload_n 3, 1) := by decide +kernel
theorem dX6_bearsAll_22 : decode cX6_bearsAll 22 = .ok (.iload_n 2, 1) := by decide +kernel
theorem dX6_bearsAll_23 : decode cX6_bearsAll 23 = .ok (.invokevirtual 46, 3) := by decide +kernel
theorem dX6_bearsAll_26 : decode cX6_bearsAll 26 = .ok (.istore 4, 2) := by decide +kernel
theorem dX6_bearsAll_28 : decode cX6_bearsAll 28 = .ok (.aload_n 0, 1) := by decide +kernel
theorem dX6_bearsAll_29 : decode cX6_bearsAll 29 = .ok (.getfield 18, 3) := by decide +kernel
theorem dX6_bearsAll_32 : decode cX6_bearsAll 32 = .ok (.iload 4, 2) := by decide +kernel
theorem dX6_bearsAll_34 : decode cX6_bearsAll 34 = .ok (.iaload, 1) := by decide +kernel
theorem dX6_bearsAll_35 : decode cX6_bearsAll 35 = .ok (.aload_n 0, 1) := by decide +kernel
theorem dX6_bearsAll_36 : decode cX6_bearsAll 36 = .ok (.iload 4, 2) := by decide +kernel
theorem dX6_bearsAll_38 : decode cX6_bearsAll 38 = .ok (.iload_n 1, 1) := by decide +kernel
theorem dX6_bearsAll_39 : decode cX6_bearsAll 39 = .ok (.invokevirtual 72, 3) := by decide +kernel
theorem dX6_bearsAll_42 : decode cX6_bearsAll 42 = .ok (.if_icmp .le 5, 3) := by decide +kernel
theorem dX6_bearsAll_47 : decode cX6_bearsAll 47 = .ok (.iinc 3 1, 3) := by decide +kernel
theorem dX6_bearsAll_50 : decode cX6_bearsAll 50 = .ok (.goto (-38), 3) := by decide +kernel
set_option maxHeartbeats 4000000 in
set_option maxRecDepth 100000 in
theorem lp_bears_in {p : Program} {l : Launch} {e : Env} {s : State} {m : MethodId} {args : Array Value} {below : List Frame} {meth : Method} {c : Code} {Q : State → Prop} {A : Nat → Prop} {D : va_G} (F : mFix p s m args c cX6_bearsAll 5 RX6) (hA : ∀ q, s.heap.size ≤ q → A q) (h0 : Nat) (q1 : Nat) (q2 : Nat) (q3 : Nat) (q4 : Nat) (q5 : Nat) (q6 : Nat) (cy1 : ClassId) (cy3 : ClassId) (w : Nat) (h : Nat) (j : Nat) (hK : va_K D vwCl [(cy1, .int), (cy3, .int)] s)
    (kx_53 : ∀ (H : Heap) (locs : List Loc), va_P D vwCl [(h0, .inr (5, [.int (nI w), .int (nI h), .ref q1, .ref q2, .ref q3, .ref q4, .ref q5, .ref q6])), (q1, .inl (cy1, 100, .inl (fun _ => 0))), (q3, .inl (cy3, 100, .inl (fun _ => 0)))] H → va_D A [(h0, .inr (5, [.int (nI w), .int (nI h), .ref q1, .ref q2, .ref q3, .ref q4, .ref q5, .ref q6])), (q1, .inl (cy1, 100, .inl (fun _ => 0))), (q3, .inl (cy3, 100, .inl (fun _ => 0)))] → va_S A s.heap H locs → ∀ ls : Array Slot, lv_has ls 5 [(0, .ref h0), (1, .int 100), (2, .int (nI j))] → W p l e ({ frames := 1, cells := 0, slots := 0, locals := 22 }) s m args below meth c H locs 0 0 Q (F0 m 53 ls [])) :
    ∀ n : Nat, ∀ (i : Nat), (i ≤ w) → (j < h) → (w ≤ 10) → (h ≤ 10) → (w - i) < n → ∀ (H : Heap) (locs : List Loc), va_P D vwCl [(h0, .inr (5, [.int (nI w), .int (nI h), .ref q1, .ref q2, .ref q3, .ref q4, .ref q5, .ref q6])), (q1, .inl (cy1, 100, .inl (fun _ => 0))), (q3, .inl (cy3, 100, .inl (fun _ => 0)))] H → va_D A [(h0, .inr (5, [.int (nI w), .int (nI h), .ref q1, .ref q2, .ref q3, .ref q4, .ref q5, .ref q6])), (q1, .inl (cy1, 100, .inl (fun _ => 0))), (q3, .inl (cy3, 100, .inl (fun _ => 0)))] → va_S A s.heap H locs → ∀ ls : Array Slot, lv_has ls 5 [(0, .ref h0), (1, .int 100), (2, .int (nI j)), (3, .int (nI i))] → W p l e ({ frames := 1, cells := 0, slots := 0, locals := 22 }) s m args below meth c H locs 0 0 Q (F0 m 12 ls []) := by
  intro n
  induction n with
  | zero => intro i b1 b2 h3 h4 hn; exact absurd hn (Nat.not_lt_zero _)
  | succ n ih =>
    intro i b1 b2 h3 h4 hn H locs hP hD hS ls hl
    obtain ⟨hx, hb, hml, hown, hts⟩ := id F
    refine lv_iload_n hx hb dX6_bearsAll_12 rfl (lv_at hl 3 rfl) ?_
    refine lv_aload_n hx hb dX6_bearsAll_13 rfl (lv_at hl 0 rfl) ?_
    refine va_get (D := D) (ci := 5) (v := .int (nI w)) (C := RX6) (T := TX6) (N := 8) hx hb hts inG_X6 hown hK hP 0 rfl rfl 0 (by decide) (hts _ kw_1_142) (fun _ h9 => h9) rfl dX6_bearsAll_14 ?_
    refine lv_icmp_ge (tgt := 53) hx hb dX6_bearsAll_17 (by decide) (fun c_1 => ?_) (fun c_1 => ?_)
    · skip
      have c_1n : w ≤ i := (nI_leI (by omega) (by omega)).mp c_1
      have c_1 := Int32.not_lt.mpr c_1
      exact kx_53   H locs (hP.sub [0, 1, 2] rfl) (hD.sub [0, 1, 2] (by decide) rfl) hS ls (lv_sub hl [0, 1, 2] rfl)
    · skip
      have c_1n : i < w := nb_le (by omega) (by omega) c_1
      have c_1 := Int32.not_le.mp c_1
      refine lv_aload_n hx hb dX6_bearsAll_20 rfl (lv_at hl 0 rfl) ?_
      refine lv_iload_n hx hb dX6_bearsAll_21 rfl (lv_at hl 3 rfl) ?_
      refine lv_iload_n hx hb dX6_bearsAll_22 rfl (lv_at hl 2 rfl) ?_
      refine mc_Vi (rest := []) (wr := [(q1, .inl (cy1, 100, .inl (fun _ => 0))), (q3, .inl (cy3, 100, .inl (fun _ => 0)))]) F hK hP hD hS hA (c_spotOf l D h0 q1 q2 q3 q4 q5 q6 w h i j ) ⟨gk_X6_46.1, gk_X6_46.2, Nat.le_of_ble_eq_true rfl, Nat.le_of_ble_eq_true rfl⟩ [0] [1, 2] [] ⟨rfl, rfl, rfl, rfl, by decide⟩ rfl xT_move (fun _ _ _ => trivial) 0 rfl rfl rfl hl.1 rfl (Nat.le_of_ble_eq_true rfl) dX6_bearsAll_23 ⟨Nat.le_of_ble_eq_true rfl, Nat.le_of_ble_eq_true rfl⟩ (fun r_2 _ H locs hw hK1 hP hD hS => ?_)
      have hP : va_P D vwCl [(q1, .inl (cy1, 100, .inl (fun _ => 0))), (q3, .inl (cy3, 100, .inl (fun _ => 0))), (h0, .inr (5, [.int (nI w), .int (nI h), .ref q1, .ref q2, .ref q3, .ref q4, .ref q5, .ref q6]))] H := hP
      have hD : va_D A [(q1, .inl (cy1, 100, .inl (fun _ => 0))), (q3, .inl (cy3, 100, .inl (fun _ => 0))), (h0, .inr (5, [.int (nI w), .int (nI h), .ref q1, .ref q2, .ref q3, .ref q4, .ref q5, .ref q6]))] := hD
      have hw_3 : r_2 = nI (j * 10 + i) := hw
      obtain rfl : r_2 = nI (j * 10 + i) := hw_3
      refine lv_istore (lv' := [(4, .int (nI (j * 10 + i))), (0, .ref h0), (1, .int 100), (2, .int (nI j)), (3, .int (nI i))]) hx hb dX6_bearsAll_26 hl (by decide) rfl (fun ls hl => ?_)
      refine lv_aload_n hx hb dX6_bearsAll_28 rfl (lv_at hl 1 rfl) ?_
      refine va_get (D := D) (ci := 5) (v := .ref q3) (C := RX6) (T := TX6) (N := 8) hx hb hts inG_X6 hown hK hP 2 rfl rfl 4 (by decide) (hts _ kw_1_152) (fun _ h9 => h9) rfl dX6_bearsAll_29 ?_
      refine lv_iload hx hb dX6_bearsAll_32 (lv_at hl 0 rfl) ?_
      refine m_iald hx hb hK hP 1 1 rfl rfl (j * 10 + i) rfl (by omega) (by decide) dX6_bearsAll_34 ?_
      refine lv_aload_n hx hb dX6_bearsAll_35 rfl (lv_at hl 1 rfl) ?_
      refine lv_iload hx hb dX6_bearsAll_36 (lv_at hl 0 rfl) ?_
      refine lv_iload_n hx hb dX6_bearsAll_38 rfl (lv_at hl 2 rfl) ?_
      refine mc_Vi (rest := [.int 0]) (wr := [(q3, .inl (cy3, 100, .inl (fun _ => 0)))]) F hK hP hD hS hA (c_bearing l D h0 q1 q2 q3 q4 q5 q6 cy1 (fun _ => 0) w h (j * 10 + i) 100 (by omega)) ⟨gk_X6_72.1, gk_X6_72.2, Nat.le_of_ble_eq_true rfl, Nat.le_of_ble_eq_true rfl⟩ [2, 0] [1] [0] ⟨rfl, rfl, rfl, rfl, by decide⟩ rfl xT_move (fun _ _ _ => trivial) 2 rfl rfl rfl hl.1 rfl (Nat.le_of_ble_eq_true rfl) dX6_bearsAll_39 ⟨Nat.le_of_ble_eq_true rfl, Nat.le_of_ble_eq_true rfl⟩ (fun r_4 _ H locs hw hK1 hP hD hS => ?_)
      have hP : va_P D vwCl [(q3, .inl (cy3, 100, .inl (fun _ => 0))), (h0, .inr (5, [.int (nI w), .int (nI h), .ref q1, .ref q2, .ref q3, .ref q4, .ref q5, .ref q6])), (q1, .inl (cy1, 100, .inl ((fun _ => 0))))] H := hP
      have hD : va_D A [(q3, .inl (cy3, 100, .inl (fun _ => 0))), (h0, .inr (5, [.int (nI w), .int (nI h), .ref q1, .ref q2, .ref q3, .ref q4, .ref q5, .ref q6])), (q1, .inl (cy1, 100, .inl ((fun _ => 0))))] := hD
      have hw_5 : r_4 = (fun _ => 0) (j * 10 + i) * (fun _ => 0) (j * 10 + i) * 100 / 100 := hw
      obtain rfl : r_4 = 0 := hw_5.trans (by show (0 : Int32) * 0 * 100 / 100 = 0; decide)
      refine lv_icmp_le (tgt := 47) hx hb dX6_bearsAll_42 (by decide) (fun c_6 => ?_) (fun c_6 => absurd c_6 (by decide))
      refine lv_iinc (v := nI (i + 1)) (lv' := [(3, .int (nI (i + 1))), (4, .int (nI (j * 10 + i))), (0, .ref h0), (1, .int 100), (2, .int (nI j))]) hx hb dX6_bearsAll_47 hl (k := 4) rfl (nI_add i 1) (by decide) rfl (fun ls hl => ?_)
      refine lv_goto (tgt := 12) hx hb dX6_bearsAll_50 (by decide) ?_
      exact ih (i + 1) (by omega) (by omega) (by omega) (by omega) (by omega) H locs (hP.sub [1, 2, 0] rfl) (hD.sub [1, 2, 0] (by decide) rfl) hS ls (lv_sub hl [2, 3, 4, 0] rfl)
theorem dX6_bearsAll_2 : decode cX6_bearsAll 2 = .ok (.iload_n 2, 1) := by decide +kernel
theorem dX6_bearsAll_3 : decode cX6_bearsAll 3 = .ok (.aload_n 0, 1) := by decide +kernel
theorem dX6_bearsAll_4 : decode cX6_bearsAll 4 = .ok (.getfield 39, 3) := by decide +kernel
theorem dX6_bearsAll_7 : decode cX6_bearsAll 7 = .ok (.if_icmp .ge 52, 3) := by decide +kernel
theorem dX6_bearsAll_10 : decode cX6_bearsAll 10 = .ok (.iconst 0, 1) := by decide +kernel
theorem dX6_bearsAll_11 : decode cX6_bearsAll 11 = .ok (.istore_n 3, 1) := by decide +kernel
theorem dX6_bearsAll_53 : decode cX6_bearsAll 53 = .ok (.iinc 2 1, 3) := by decide +kernel
theorem dX6_bearsAll_56 : decode cX6_bearsAll 56 = .ok (.goto (-54), 3) := by decide +kernel
set_option maxHeartbeats 4000000 in
set_option maxRecDepth 100000 in
theorem lp_bears_out {p : Program} {l : Launch} {e : Env} {s : State} {m : MethodId} {args : Array Value} {below : List Frame} {meth : Method} {c : Code} {Q : State → Prop} {A : Nat → Prop} {D : va_G} (F : mFix p s m args c cX6_bearsAll 5 RX6) (hA : ∀ q, s.heap.size ≤ q → A q) (h0 : Nat) (q1 : Nat) (q2 : Nat) (q3 : Nat) (q4 : Nat) (q5 : Nat) (q6 : Nat) (cy1 : ClassId) (cy3 : ClassId) (w : Nat) (h : Nat) (hK : va_K D vwCl [(cy1, .int), (cy3, .int)] s)
    (kx_59 : ∀ (H : Heap) (locs : List Loc), va_P D vwCl [(h0, .inr (5, [.int (nI w), .int (nI h), .ref q1, .ref q2, .ref q3, .ref q4, .ref q5, .ref q6])), (q1, .inl (cy1, 100, .inl (fun _ => 0))), (q3, .inl (cy3, 100, .inl (fun _ => 0)))] H → va_D A [(h0, .inr (5, [.int (nI w), .int (nI h), .ref q1, .ref q2, .ref q3, .ref q4, .ref q5, .ref q6])), (q1, .inl (cy1, 100, .inl (fun _ => 0))), (q3, .inl (cy3, 100, .inl (fun _ => 0)))] → va_S A s.heap H locs → ∀ ls : Array Slot, lv_has ls 5 [] → W p l e ({ frames := 1, cells := 0, slots := 0, locals := 22 }) s m args below meth c H locs 0 0 Q (F0 m 59 ls [])) :
    ∀ n : Nat, ∀ (j : Nat), (j ≤ h) → (w ≤ 10) → (h ≤ 10) → (h - j) < n → ∀ (H : Heap) (locs : List Loc), va_P D vwCl [(h0, .inr (5, [.int (nI w), .int (nI h), .ref q1, .ref q2, .ref q3, .ref q4, .ref q5, .ref q6])), (q1, .inl (cy1, 100, .inl (fun _ => 0))), (q3, .inl (cy3, 100, .inl (fun _ => 0)))] H → va_D A [(h0, .inr (5, [.int (nI w), .int (nI h), .ref q1, .ref q2, .ref q3, .ref q4, .ref q5, .ref q6])), (q1, .inl (cy1, 100, .inl (fun _ => 0))), (q3, .inl (cy3, 100, .inl (fun _ => 0)))] → va_S A s.heap H locs → ∀ ls : Array Slot, lv_has ls 5 [(0, .ref h0), (1, .int 100), (2, .int (nI j))] → W p l e ({ frames := 1, cells := 0, slots := 0, locals := 22 }) s m args below meth c H locs 0 0 Q (F0 m 2 ls []) := by
  intro n
  induction n with
  | zero => intro j b1 h3 h4 hn; exact absurd hn (Nat.not_lt_zero _)
  | succ n ih =>
    intro j b1 h3 h4 hn H locs hP hD hS ls hl
    obtain ⟨hx, hb, hml, hown, hts⟩ := id F
    refine lv_iload_n hx hb dX6_bearsAll_2 rfl (lv_at hl 2 rfl) ?_
    refine lv_aload_n hx hb dX6_bearsAll_3 rfl (lv_at hl 0 rfl) ?_
    refine va_get (D := D) (ci := 5) (v := .int (nI h)) (C := RX6) (T := TX6) (N := 8) hx hb hts inG_X6 hown hK hP 0 rfl rfl 1 (by decide) (hts _ kw_1_145) (fun _ h9 => h9) rfl dX6_bearsAll_4 ?_
    refine lv_icmp_ge (tgt := 59) hx hb dX6_bearsAll_7 (by decide) (fun c_1 => ?_) (fun c_1 => ?_)
    · skip
      have c_1n : h ≤ j := (nI_leI (by omega) (by omega)).mp c_1
      have c_1 := Int32.not_lt.mpr c_1
      exact kx_59   H locs (hP.sub [0, 1, 2] rfl) (hD.sub [0, 1, 2] (by decide) rfl) hS ls (lv_sub hl [] rfl)
    · skip
      have c_1n : j < h := nb_le (by omega) (by omega) c_1
      have c_1 := Int32.not_le.mp c_1
      refine lv_iconst (v := 0) hx hb dX6_bearsAll_10 (by decide) ?_
      refine lv_istore_n (lv' := [(3, .int 0), (0, .ref h0), (1, .int 100), (2, .int (nI j))]) hx hb dX6_bearsAll_11 rfl hl (by decide) rfl (fun ls hl => ?_)
      refine lp_bears_in F hA h0 q1 q2 q3 q4 q5 q6 cy1 cy3 w h j (hK.sub [0, 1] rfl) (fun   H locs hP hD hS ls hl => ?_) _ 0 (by omega) (by omega) (by omega) (by omega) (Nat.lt_succ_self _) _ _ (hP.sub [0, 1, 2] rfl) (hD.sub [0, 1, 2] (by decide) rfl) hS ls (lv_sub hl [1, 2, 3, 0] rfl)
      refine lv_iinc (v := nI (j + 1)) (lv' := [(2, .int (nI (j + 1))), (0, .ref h0), (1, .int 100)]) hx hb dX6_bearsAll_53 hl (k := 2) rfl (nI_add j 1) (by decide) rfl (fun ls hl => ?_)
      refine lv_goto (tgt := 2) hx hb dX6_bearsAll_56 (by decide) ?_
      exact ih (j + 1) (by omega) (by omega) (by omega) (by omega) H locs (hP.sub [0, 1, 2] rfl) (hD.sub [0, 1, 2] (by decide) rfl) hS ls (lv_sub hl [1, 2, 0] rfl)
theorem dX6_bearsAll_0 : decode cX6_bearsAll 0 = .ok (.iconst 0, 1) := by decide +kernel
theorem dX6_bearsAll_1 : decode cX6_bearsAll 1 = .ok (.istore_n 2, 1) := by decide +kernel
theorem dX6_bearsAll_59 : decode cX6_bearsAll 59 = .ok (.iconst 1, 1) := by decide +kernel
theorem dX6_bearsAll_60 : decode cX6_bearsAll 60 = .ok (.ireturn, 1) := by decide +kernel
set_option maxHeartbeats 4000000 in
set_option maxRecDepth 100000 in
theorem c_bearsAll0 (l : Launch) (D : va_G) (h0 : Nat) (q1 : Nat) (q2 : Nat) (q3 : Nat) (q4 : Nat) (q5 : Nat) (q6 : Nat) (cy1 : ClassId) (cy3 : ClassId) (w : Nat) (h : Nat) (h3 : w ≤ 10) (h4 : h ≤ 10) : cI l yX6_bearsAll (.code yX6_bearsAll cX6_bearsAll 5 (some .boolean)) ({ frames := 1, cells := 0, slots := 0, locals := 22 }) D [(cy1, .int), (cy3, .int)] [(h0, .inr (5, [.int (nI w), .int (nI h), .ref q1, .ref q2, .ref q3, .ref q4, .ref q5, .ref q6])), (q1, .inl (cy1, 100, .inl (fun _ => 0))), (q3, .inl (cy3, 100, .inl (fun _ => 0)))] xT [.ref h0, .int 100] (S := Unit) (fun r _ => r = 1) (fun _ => []) (fun _ => [(h0, .inr (5, [.int (nI w), .int (nI h), .ref q1, .ref q2, .ref q3, .ref q4, .ref q5, .ref q6])), (q1, .inl (cy1, 100, .inl (fun _ => 0))), (q3, .inl (cy3, 100, .inl (fun _ => 0)))]) := by
  intro sz
  refine Met.ofW (cc := cX6_bearsAll) (maxL := 5) (ret := (some .boolean)) (by decide) rfl ?_
  intro p e s m args below meth c s₁ B hml hv
  obtain ⟨rfl, hsz, hP, hK, hD0, hX⟩ := hv
  have hx := B.exec
  have hb := B.bytes
  have hr := B.returns
  have hts0 := atoms_spec (ws := .code yX6_bearsAll cX6_bearsAll 5 (some .boolean) :: gw) B.pre
  have hts := fun (w : Cond) (h : w ∈ gw) => hts0 w (List.mem_cons_of_mem _ h)
  have hown : s.vm.findClass RX6 = some m.cls := findClass_of_methodNamed B.named
  have hlocks := B.notSynchronized
  have F : mFix p s m _ c cX6_bearsAll 5 RX6 := ⟨hx, hb, hml, hown, hts⟩
  subst hsz
  have hD := hD0.self (sz := s.heap.size)
  generalize hAe : va_A [(h0, .inr (5, [.int (nI w), .int (nI h), .ref q1, .ref q2, .ref q3, .ref q4, .ref q5, .ref q6])), (q1, .inl (cy1, 100, .inl (fun _ => 0))), (q3, .inl (cy3, 100, .inl (fun _ => 0)))] s.heap.size = A at hD hX ⊢
  have hA : ∀ q : Nat, s.heap.size ≤ q → A q := fun q h => by rw [← hAe]; exact Or.inr h
  have hS : va_S A s.heap s.heap [] := va_S.rf
  have hl := lv_entry ([.ref h0, .int 100]) (n := 5) (Nat.le_of_ble_eq_true rfl)
  rw [lg_entry_eq]
  generalize (lg_sl ([.ref h0, .int 100]) ++ List.replicate (5 - (lg_sl ([.ref h0, .int 100])).length) Slot.unset).toArray = ls at hl ⊢
  have hl : lv_has ls 5 [(0, .ref h0), (1, .int 100)] := hl
  have hP : va_P D vwCl [(h0, .inr (5, [.int (nI w), .int (nI h), .ref q1, .ref q2, .ref q3, .ref q4, .ref q5, .ref q6])), (q1, .inl (cy1, 100, .inl (fun _ => 0))), (q3, .inl (cy3, 100, .inl (fun _ => 0)))] s.heap := hP
  refine lv_iconst (v := 0) hx hb dX6_bearsAll_0 (by decide) ?_
  refine lv_istore_n (lv' := [(2, .int 0), (0, .ref h0), (1, .int 100)]) hx hb dX6_bearsAll_1 rfl hl (by decide) rfl (fun ls hl => ?_)
  refine lp_bears_out F hA h0 q1 q2 q3 q4 q5 q6 cy1 cy3 w h (hK.sub [0, 1] rfl) (fun   H locs hP hD hS ls hl => ?_) _ 0 (by omega) (by omega) (by omega) (Nat.lt_succ_self _) _ _ (hP.sub [0, 1, 2] rfl) (hD.sub [0, 1, 2] (by decide) rfl) hS ls (lv_sub hl [1, 2, 0] rfl)
  refine lv_iconst (v := 1) hx hb dX6_bearsAll_59 (by decide) ?_
  have hP9 := hP.sub (ws' := [(h0, .inr (5, [.int (nI w), .int (nI h), .ref q1, .ref q2, .ref q3, .ref q4, .ref q5, .ref q6])), (q1, .inl (cy1, 100, .inl (fun _ => 0))), (q3, .inl (cy3, 100, .inl (fun _ => 0)))]) [0, 1, 2] rfl
  have hD9 := hD.sub (ws' := [(h0, .inr (5, [.int (nI w), .int (nI h), .ref q1, .ref q2, .ref q3, .ref q4, .ref q5, .ref q6])), (q1, .inl (cy1, 100, .inl (fun _ => 0))), (q3, .inl (cy3, 100, .inl (fun _ => 0)))]) [0, 1, 2] (by decide) rfl
  have hK9 := hK.sub (tys' := []) [] rfl
  refine W.widen (k := 0) (n := 0) (by decide) (by decide) ?_
  exact W.zret (v := 1) hx hb hr rfl (fun t ht hW => ⟨⟨1, (), rfl, rfl, by rw [ht]; exact hP9, va_K.moved hW.alike hK9, hD9⟩, hS.F ht⟩) hS.2.2 dX6_bearsAll_60
theorem dX4_gatherWaiting_0 : decode cX4_gatherWaiting 0 = .ok (.aload_n 0, 1) := by decide +kernel
theorem dX4_gatherWaiting_1 : decode cX4_gatherWaiting 1 = .ok (.iconst 0, 1) := by decide +kernel
theorem kw_2_16 : Cond.fieldLink RX4 75 "IceFair$Laying" "waitingCount" "I" ∈ gw := gw_t2 (List.mem_of_getElem? (i := 16) (by decide +kernel)) (by decide +kernel)
theorem dX4_gatherWaiting_2 : decode cX4_gatherWaiting 2 = .ok (.putfield 75, 3) := by decide +kernel
theorem dX4_gatherWaiting_5 : decode cX4_gatherWaiting 5 = .ok (.iconst 0, 1) := by decide +kernel
theorem dX4_gatherWaiting_6 : decode cX4_gatherWaiting 6 = .ok (.istore_n 2, 1) := by decide +kernel
theorem dX4_gatherWaiting_7 : decode cX4_gatherWaiting 7 = .ok (.iload_n 2, 1) := by decide +kernel
theorem dX4_gatherWaiting_8 : decode cX4_gatherWaiting 8 = .ok (.aload_n 1, 1) := by decide +kernel
theorem kw_1_227 : Cond.fieldLink RX4 78 "IceFair$Fair" "boothCount" "I" ∈ gw := gw_t1 (List.mem_of_getElem? (i := 227) (by decide +kernel)) (by decide +kernel)
theorem dX4_gatherWaiting_9 : decode cX4_gatherWaiting 9 = .ok (.getfield 78, 3) := by decide +kernel
theorem dX4_gatherWaiting_12 : decode cX4_gatherWaiting 12 = .ok (.if_icmp .ge 47, 3) := by decide +kernel
theorem dX4_gatherWaiting_59 : decode cX4_gatherWaiting 59 = .ok (.return_, 1) := by decide +kernel
set_option maxHeartbeats 4000000 in
set_option maxRecDepth 100000 in
theorem c_gatherW0 (l : Launch) (D : va_G) (h0 : Nat) (ly1 : Nat) (ly2 : Nat) (ly3 : Nat) (ly4 : Nat) (ly5 : Nat) (fa : Nat) (cu : Nat) (rv : Nat) (bt : Nat) (lk : Int32) (wc : Int32) (oc : Int32) (ab : Int32) (ho : Int32) (fe : Int32) : cV l yX4_gatherWaiting (.code yX4_gatherWaiting cX4_gatherWaiting 3 none) ({ frames := 0, cells := 0, slots := 0, locals := 0 }) D [] [(h0, .inr (4, [.int lk, .ref ly1, .int wc, .ref ly2, .ref ly3, .ref ly4, .int oc, .ref ly5, .int ab])), (fa, .inr (3, [.ref cu, .ref rv, .ref bt, .int 0, .int ho, .int fe]))] xT [.ref h0, .ref fa] (S := Unit) (fun _ => True) (fun _ => []) (fun _ => [(h0, .inr (4, [.int lk, .ref ly1, .int 0, .ref ly2, .ref ly3, .ref ly4, .int oc, .ref ly5, .int ab])), (fa, .inr (3, [.ref cu, .ref rv, .ref bt, .int 0, .int ho, .int fe]))]) := by
  intro sz
  refine Met.ofW (cc := cX4_gatherWaiting) (maxL := 3) (ret := none) (by decide) rfl ?_
  intro p e s m args below meth c s₁ B hml hv
  obtain ⟨rfl, hsz, hP, hK, hD0, hX⟩ := hv
  have hx := B.exec
  have hb := B.bytes
  have hr := B.returns
  have hts0 := atoms_spec (ws := .code yX4_gatherWaiting cX4_gatherWaiting 3 none :: gw) B.pre
  have hts := fun (w : Cond) (h : w ∈ gw) => hts0 w (List.mem_cons_of_mem _ h)
  have hown : s.vm.findClass RX4 = some m.cls := findClass_of_methodNamed B.named
  have hlocks := B.notSynchronized
  have F : mFix p s m _ c cX4_gatherWaiting 3 RX4 := ⟨hx, hb, hml, hown, hts⟩
  subst hsz
  have hD := hD0.self (sz := s.heap.size)
  generalize hAe : va_A [(h0, .inr (4, [.int lk, .ref ly1, .int wc, .ref ly2, .ref ly3, .ref ly4, .int oc, .ref ly5, .int ab])), (fa, .inr (3, [.ref cu, .ref rv, .ref bt, .int 0, .int ho, .int fe]))] s.heap.size = A at hD hX ⊢
  have hA : ∀ q : Nat, s.heap.size ≤ q → A q := fun q h => by rw [← hAe]; exact Or.inr h
  have hS : va_S A s.heap s.heap [] := va_S.rf
  have hl := lv_entry ([.ref h0, .ref fa]) (n := 3) (Nat.le_of_ble_eq_true rfl)
  rw [lg_entry_eq]
  generalize (lg_sl ([.ref h0, .ref fa]) ++ List.replicate (3 - (lg_sl ([.ref h0, .ref fa])).length) Slot.unset).toArray = ls at hl ⊢
  have hl : lv_has ls 3 [(0, .ref h0), (1, .ref fa)] := hl
  have hP : va_P D vwCl [(h0, .inr (4, [.int lk, .ref ly1, .int wc, .ref ly2, .ref ly3, .ref ly4, .int oc, .ref ly5, .int ab])), (fa, .inr (3, [.ref cu, .ref rv, .ref bt, .int 0, .int ho, .int fe]))] s.heap := hP
  refine lv_aload_n hx hb dX4_gatherWaiting_0 rfl (lv_at hl 0 rfl) ?_
  refine lv_iconst (v := 0) hx hb dX4_gatherWaiting_1 (by decide) ?_
  refine va_put (D := D) (ci := 4) (v := .int 0) (ty := .int) (C := RX4) (T := TX4) (N := 9) hx hb hts inG_X4 tyX4 tyX4_ok nmX4 hown hK hP hD hS 0 rfl rfl 2 (by decide) (hts _ kw_2_16) (fun _ h9 => h9) rfl (by decide +kernel) rfl rfl (Nat.le_of_ble_eq_true rfl) dX4_gatherWaiting_2 (fun H locs hP hD hS => ?_)
  have hP : va_P D vwCl [(h0, .inr (4, [.int lk, .ref ly1, .int 0, .ref ly2, .ref ly3, .ref ly4, .int oc, .ref ly5, .int ab])), (fa, .inr (3, [.ref cu, .ref rv, .ref bt, .int 0, .int ho, .int fe]))] H := hP
  have hD : va_D A [(h0, .inr (4, [.int lk, .ref ly1, .int 0, .ref ly2, .ref ly3, .ref ly4, .int oc, .ref ly5, .int ab])), (fa, .inr (3, [.ref cu, .ref rv, .ref bt, .int 0, .int ho, .int fe]))] := hD
  refine lv_iconst (v := 0) hx hb dX4_gatherWaiting_5 (by decide) ?_
  refine lv_istore_n (lv' := [(2, .int 0), (0, .ref h0), (1, .ref fa)]) hx hb dX4_gatherWaiting_6 rfl hl (by decide) rfl (fun ls hl => ?_)
  refine lv_iload_n hx hb dX4_gatherWaiting_7 rfl (lv_at hl 0 rfl) ?_
  refine lv_aload_n hx hb dX4_gatherWaiting_8 rfl (lv_at hl 2 rfl) ?_
  refine va_get (D := D) (ci := 3) (v := .int 0) (C := RX3) (T := TX3) (N := 6) hx hb hts inG_X3 hown hK hP 1 rfl rfl 3 (by decide) (hts _ kw_1_227) (fun _ h9 => h9) rfl dX4_gatherWaiting_9 ?_
  refine lv_icmp_ge (tgt := 59) hx hb dX4_gatherWaiting_12 (by decide) (fun c_1 => ?_) (fun c_1 => absurd c_1 (by decide))
  have hP9 := hP.sub (ws' := [(h0, .inr (4, [.int lk, .ref ly1, .int 0, .ref ly2, .ref ly3, .ref ly4, .int oc, .ref ly5, .int ab])), (fa, .inr (3, [.ref cu, .ref rv, .ref bt, .int 0, .int ho, .int fe]))]) [0, 1] rfl
  have hD9 := hD.sub (ws' := [(h0, .inr (4, [.int lk, .ref ly1, .int 0, .ref ly2, .ref ly3, .ref ly4, .int oc, .ref ly5, .int ab])), (fa, .inr (3, [.ref cu, .ref rv, .ref bt, .int 0, .int ho, .int fe]))]) [0, 1] (by decide) rfl
  have hK9 := hK.sub (tys' := []) [] rfl
  refine W.widen (k := 0) (n := 0) (by decide) (by decide) ?_
  exact W.vret hx hb hr (fun t ht hW => ⟨⟨(), rfl, trivial, by rw [ht]; exact hP9, va_K.moved hW.alike hK9, hD9⟩, hS.F ht⟩) hS.2.2 dX4_gatherWaiting_59
theorem dX4_gatherOpen_20 : decode cX4_gatherOpen 20 = .ok (.iload_n 3, 1) := by decide +kernel
theorem dX4_gatherOpen_21 : decode cX4_gatherOpen 21 = .ok (.aload_n 1, 1) := by decide +kernel
theorem kw_1_220 : Cond.fieldLink RX4 39 "IceFair$Fair" "river" "LIceFair$River;" ∈ gw := gw_t1 (List.mem_of_getElem? (i := 220) (by decide +kernel)) (by decide +kernel)
theorem dX4_gatherOpen_22 : decode cX4_gatherOpen 22 = .ok (.getfield 39, 3) := by decide +kernel
theorem kw_1_143 : Cond.fieldLink RX4 96 "IceFair$River" "width" "I" ∈ gw := gw_t1 (List.mem_of_getElem? (i := 143) (by decide +kernel)) (by decide +kernel)
theorem dX4_gatherOpen_25 : decode cX4_gatherOpen 25 = .ok (.getfield 96, 3) := by decide +kernel
theorem dX4_gatherOpen_28 : decode cX4_gatherOpen 28 = .ok (.if_icmp .ge 93, 3) := by decide +kernel
theorem dX4_gatherOpen_31 : decode cX4_gatherOpen 31 = .ok (.aload_n 1, 1) := by decide +kernel
theorem dX4_gatherOpen_32 : decode cX4_gatherOpen 32 = .ok (.getfield 39, 3) := by decide +kernel
theorem dX4_gatherOpen_35 : decode cX4_gatherOpen 35 = .ok (.iload_n 3, 1) := by decide +kernel
theorem dX4_gatherOpen_36 : decode cX4_gatherOpen 36 = .ok (.iload_n 2, 1) := by decide +kernel
theorem kw_3_202 : Cond.methodLink RX4 99 yX6_isOpen ∈ gw := gw_t3 (List.mem_of_getElem? (i := 202) (by decide +kernel)) (by decide +kernel)
theorem kw_3_40 : Cond.instanceMethod yX6_isOpen ∈ gw := gw_t3 (List.mem_of_getElem? (i := 40) (by decide +kernel)) (by decide +kernel)
theorem kw_3_41 : Cond.selects RX6 yX6_isOpen yX6_isOpen ∈ gw := gw_t3 (List.mem_of_getElem? (i := 41) (by decide +kernel)) (by decide +kernel)
theorem kw_3_42 : Cond.code yX6_isOpen cX6_isOpen 3 (some .boolean) ∈ gw := gw_t3 (List.mem_of_getElem? (i := 42) (by decide +kernel)) (by decide +kernel)
theorem gk_X4_99 : GoodIn gw (wsV RX4 99 RX6 yX6_isOpen (.code yX6_isOpen cX6_isOpen 3 (some .boolean) :: gw)) ∧ (yX6_isOpen.cls = RX6 ∧ yX6_isOpen.cls ≠ "java/lang/invoke/MethodHandle" ∧ yX6_isOpen.cls ≠ "java/lang/invoke/VarHandle" ∧ (parseMethodDescriptor yX6_isOpen.desc).map (fun d => d.parameters.length) = some 2) := ⟨gi_V kw_3_202 kw_3_40 kw_3_41 kw_1_7 kw_3_42, by decide +kernel⟩
theorem dX4_gatherOpen_37 : decode cX4_gatherOpen 37 = .ok (.invokevirtual 99, 3) := by decide +kernel
theorem dX4_gatherOpen_40 : decode cX4_gatherOpen 40 = .ok (.ifCond .eq 75, 3) := by decide +kernel
theorem dX4_gatherOpen_115 : decode cX4_gatherOpen 115 = .ok (.iinc 3 1, 3) := by decide +kernel
theorem dX4_gatherOpen_118 : decode cX4_gatherOpen 118 = .ok (.goto (-98), 3) := by decide +kernel
set_option maxHeartbeats 4000000 in
set_option maxRecDepth 100000 in
theorem lp_gather_in {p : Program} {l : Launch} {e : Env} {s : State} {m : MethodId} {args : Array Value} {below : List Frame} {meth : Method} {c : Code} {Q : State → Prop} {A : Nat → Prop} {D : va_G} (F : mFix p s m args c cX4_gatherOpen 4 RX4) (hA : ∀ q, s.heap.size ≤ q → A q) (h0 : Nat) (ly1 : Nat) (ly2 : Nat) (ly3 : Nat) (ly4 : Nat) (ly5 : Nat) (fa : Nat) (cu : Nat) (rv : Nat) (bt : Nat) (q1 : Nat) (q2 : Nat) (q3 : Nat) (q4 : Nat) (q5 : Nat) (q6 : Nat) (cy1 : ClassId) (w : Nat) (h : Nat) (lk : Int32) (wc : Int32) (ab : Int32) (ho : Int32) (fe : Int32) (j : Nat) (hK : va_K D vwCl [(cy1, .int)] s)
    (kx_121 : ∀ (H : Heap) (locs : List Loc), va_P D vwCl [(h0, .inr (4, [.int lk, .ref ly1, .int wc, .ref ly2, .ref ly3, .ref ly4, .int 0, .ref ly5, .int ab])), (fa, .inr (3, [.ref cu, .ref rv, .ref bt, .int 0, .int ho, .int fe])), (rv, .inr (5, [.int (nI w), .int (nI h), .ref q1, .ref q2, .ref q3, .ref q4, .ref q5, .ref q6])), (q1, .inl (cy1, 100, .inl (fun _ => 0)))] H → va_D A [(h0, .inr (4, [.int lk, .ref ly1, .int wc, .ref ly2, .ref ly3, .ref ly4, .int 0, .ref ly5, .int ab])), (fa, .inr (3, [.ref cu, .ref rv, .ref bt, .int 0, .int ho, .int fe])), (rv, .inr (5, [.int (nI w), .int (nI h), .ref q1, .ref q2, .ref q3, .ref q4, .ref q5, .ref q6])), (q1, .inl (cy1, 100, .inl (fun _ => 0)))] → va_S A s.heap H locs → ∀ ls : Array Slot, lv_has ls 4 [(0, .ref h0), (1, .ref fa), (2, .int (nI j))] → W p l e ({ frames := 3, cells := 0, slots := 0, locals := 67 }) s m args below meth c H locs 0 0 Q (F0 m 121 ls [])) :
    ∀ n : Nat, ∀ (i : Nat), (i ≤ w) → (j < h) → (w ≤ 10) → (h ≤ 10) → (w - i) < n → ∀ (H : Heap) (locs : List Loc), va_P D vwCl [(h0, .inr (4, [.int lk, .ref ly1, .int wc, .ref ly2, .ref ly3, .ref ly4, .int 0, .ref ly5, .int ab])), (fa, .inr (3, [.ref cu, .ref rv, .ref bt, .int 0, .int ho, .int fe])), (rv, .inr (5, [.int (nI w), .int (nI h), .ref q1, .ref q2, .ref q3, .ref q4, .ref q5, .ref q6])), (q1, .inl (cy1, 100, .inl (fun _ => 0)))] H → va_D A [(h0, .inr (4, [.int lk, .ref ly1, .int wc, .ref ly2, .ref ly3, .ref ly4, .int 0, .ref ly5, .int ab])), (fa, .inr (3, [.ref cu, .ref rv, .ref bt, .int 0, .int ho, .int fe])), (rv, .inr (5, [.int (nI w), .int (nI h), .ref q1, .ref q2, .ref q3, .ref q4, .ref q5, .ref q6])), (q1, .inl (cy1, 100, .inl (fun _ => 0)))] → va_S A s.heap H locs → ∀ ls : Array Slot, lv_has ls 4 [(0, .ref h0), (1, .ref fa), (2, .int (nI j)), (3, .int (nI i))] → W p l e ({ frames := 3, cells := 0, slots := 0, locals := 67 }) s m args below meth c H locs 0 0 Q (F0 m 20 ls []) := by
  intro n
  induction n with
  | zero => intro i b1 b2 h3 h4 hn; exact absurd hn (Nat.not_lt_zero _)
  | succ n ih =>
    intro i b1 b2 h3 h4 hn H locs hP hD hS ls hl
    obtain ⟨hx, hb, hml, hown, hts⟩ := id F
    refine lv_iload_n hx hb dX4_gatherOpen_20 rfl (lv_at hl 3 rfl) ?_
    refine lv_aload_n hx hb dX4_gatherOpen_21 rfl (lv_at hl 1 rfl) ?_
    refine va_get (D := D) (ci := 3) (v := .ref rv) (C := RX3) (T := TX3) (N := 6) hx hb hts inG_X3 hown hK hP 1 rfl rfl 1 (by decide) (hts _ kw_1_220) (fun _ h9 => h9) rfl dX4_gatherOpen_22 ?_
    refine va_get (D := D) (ci := 5) (v := .int (nI w)) (C := RX6) (T := TX6) (N := 8) hx hb hts inG_X6 hown hK hP 2 rfl rfl 0 (by decide) (hts _ kw_1_143) (fun _ h9 => h9) rfl dX4_gatherOpen_25 ?_
    refine lv_icmp_ge (tgt := 121) hx hb dX4_gatherOpen_28 (by decide) (fun c_1 => ?_) (fun c_1 => ?_)
    · skip
      have c_1n : w ≤ i := (nI_leI (by omega) (by omega)).mp c_1
      have c_1 := Int32.not_lt.mpr c_1
      exact kx_121   H locs (hP.sub [0, 1, 2, 3] rfl) (hD.sub [0, 1, 2, 3] (by decide) rfl) hS ls (lv_sub hl [0, 1, 2] rfl)
    · skip
      have c_1n : i < w := nb_le (by omega) (by omega) c_1
      have c_1 := Int32.not_le.mp c_1
      refine lv_aload_n hx hb dX4_gatherOpen_31 rfl (lv_at hl 1 rfl) ?_
      refine va_get (D := D) (ci := 3) (v := .ref rv) (C := RX3) (T := TX3) (N := 6) hx hb hts inG_X3 hown hK hP 1 rfl rfl 1 (by decide) (hts _ kw_1_220) (fun _ h9 => h9) rfl dX4_gatherOpen_32 ?_
      refine lv_iload_n hx hb dX4_gatherOpen_35 rfl (lv_at hl 3 rfl) ?_
      refine lv_iload_n hx hb dX4_gatherOpen_36 rfl (lv_at hl 2 rfl) ?_
      refine mc_Vi (rest := []) (wr := [(h0, .inr (4, [.int lk, .ref ly1, .int wc, .ref ly2, .ref ly3, .ref ly4, .int 0, .ref ly5, .int ab])), (fa, .inr (3, [.ref cu, .ref rv, .ref bt, .int 0, .int ho, .int fe]))]) F hK hP hD hS hA (c_isOpen0 l D rv q1 q2 q3 q4 q5 q6 cy1 w h i j (by omega) (by omega) (by omega) (by omega)) ⟨gk_X4_99.1, gk_X4_99.2, Nat.le_of_ble_eq_true rfl, Nat.le_of_ble_eq_true rfl⟩ [2, 3] [0, 1] [0] ⟨rfl, rfl, rfl, rfl, by decide⟩ rfl xT_move (fun _ _ _ => trivial) 2 rfl rfl rfl hl.1 rfl (Nat.le_of_ble_eq_true rfl) dX4_gatherOpen_37 ⟨Nat.le_of_ble_eq_true rfl, Nat.le_of_ble_eq_true rfl⟩ (fun r_2 _ H locs hw hK1 hP hD hS => ?_)
      have hP : va_P D vwCl [(h0, .inr (4, [.int lk, .ref ly1, .int wc, .ref ly2, .ref ly3, .ref ly4, .int 0, .ref ly5, .int ab])), (fa, .inr (3, [.ref cu, .ref rv, .ref bt, .int 0, .int ho, .int fe])), (rv, .inr (5, [.int (nI w), .int (nI h), .ref q1, .ref q2, .ref q3, .ref q4, .ref q5, .ref q6])), (q1, .inl (cy1, 100, .inl (fun _ => 0)))] H := hP
      have hD : va_D A [(h0, .inr (4, [.int lk, .ref ly1, .int wc, .ref ly2, .ref ly3, .ref ly4, .int 0, .ref ly5, .int ab])), (fa, .inr (3, [.ref cu, .ref rv, .ref bt, .int 0, .int ho, .int fe])), (rv, .inr (5, [.int (nI w), .int (nI h), .ref q1, .ref q2, .ref q3, .ref q4, .ref q5, .ref q6])), (q1, .inl (cy1, 100, .inl (fun _ => 0)))] := hD
      have hw_3 : r_2 = 0 := hw
      obtain rfl : r_2 = 0 := hw_3
      refine lv_if_eq (tgt := 115) hx hb dX4_gatherOpen_40 (by decide) (fun c_4 => ?_) (fun c_4 => absurd c_4 (by decide))
      refine lv_iinc (v := nI (i + 1)) (lv' := [(3, .int (nI (i + 1))), (0, .ref h0), (1, .ref fa), (2, .int (nI j))]) hx hb dX4_gatherOpen_115 hl (k := 3) rfl (nI_add i 1) (by decide) rfl (fun ls hl => ?_)
      refine lv_goto (tgt := 20) hx hb dX4_gatherOpen_118 (by decide) ?_
      exact ih (i + 1) (by omega) (by omega) (by omega) (by omega) (by omega) H locs (hP.sub [0, 1, 2, 3] rfl) (hD.sub [0, 1, 2, 3] (by decide) rfl) hS ls (lv_sub hl [1, 2, 3, 0] rfl)
theorem dX4_gatherOpen_7 : decode cX4_gatherOpen 7 = .ok (.iload_n 2, 1) := by decide +kernel
theorem dX4_gatherOpen_8 : decode cX4_gatherOpen 8 = .ok (.aload_n 1, 1) := by decide +kernel
theorem dX4_gatherOpen_9 : decode cX4_gatherOpen 9 = .ok (.getfield 39, 3) := by decide +kernel
theorem kw_1_146 : Cond.fieldLink RX4 93 "IceFair$River" "height" "I" ∈ gw := gw_t1 (List.mem_of_getElem? (i := 146) (by decide +kernel)) (by decide +kernel)
theorem dX4_gatherOpen_12 : decode cX4_gatherOpen 12 = .ok (.getfield 93, 3) := by decide +kernel
theorem dX4_gatherOpen_15 : decode cX4_gatherOpen 15 = .ok (.if_icmp .ge 112, 3) := by decide +kernel
theorem dX4_gatherOpen_18 : decode cX4_gatherOpen 18 = .ok (.iconst 0, 1) := by decide +kernel
theorem dX4_gatherOpen_19 : decode cX4_gatherOpen 19 = .ok (.istore_n 3, 1) := by decide +kernel
theorem dX4_gatherOpen_121 : decode cX4_gatherOpen 121 = .ok (.iinc 2 1, 3) := by decide +kernel
theorem dX4_gatherOpen_124 : decode cX4_gatherOpen 124 = .ok (.goto (-117), 3) := by decide +kernel
set_option maxHeartbeats 4000000 in
set_option maxRecDepth 100000 in
theorem lp_gather_out {p : Program} {l : Launch} {e : Env} {s : State} {m : MethodId} {args : Array Value} {below : List Frame} {meth : Method} {c : Code} {Q : State → Prop} {A : Nat → Prop} {D : va_G} (F : mFix p s m args c cX4_gatherOpen 4 RX4) (hA : ∀ q, s.heap.size ≤ q → A q) (h0 : Nat) (ly1 : Nat) (ly2 : Nat) (ly3 : Nat) (ly4 : Nat) (ly5 : Nat) (fa : Nat) (cu : Nat) (rv : Nat) (bt : Nat) (q1 : Nat) (q2 : Nat) (q3 : Nat) (q4 : Nat) (q5 : Nat) (q6 : Nat) (cy1 : ClassId) (w : Nat) (h : Nat) (lk : Int32) (wc : Int32) (ab : Int32) (ho : Int32) (fe : Int32) (hK : va_K D vwCl [(cy1, .int)] s)
    (kx_127 : ∀ (H : Heap) (locs : List Loc), va_P D vwCl [(h0, .inr (4, [.int lk, .ref ly1, .int wc, .ref ly2, .ref ly3, .ref ly4, .int 0, .ref ly5, .int ab])), (fa, .inr (3, [.ref cu, .ref rv, .ref bt, .int 0, .int ho, .int fe])), (rv, .inr (5, [.int (nI w), .int (nI h), .ref q1, .ref q2, .ref q3, .ref q4, .ref q5, .ref q6])), (q1, .inl (cy1, 100, .inl (fun _ => 0)))] H → va_D A [(h0, .inr (4, [.int lk, .ref ly1, .int wc, .ref ly2, .ref ly3, .ref ly4, .int 0, .ref ly5, .int ab])), (fa, .inr (3, [.ref cu, .ref rv, .ref bt, .int 0, .int ho, .int fe])), (rv, .inr (5, [.int (nI w), .int (nI h), .ref q1, .ref q2, .ref q3, .ref q4, .ref q5, .ref q6])), (q1, .inl (cy1, 100, .inl (fun _ => 0)))] → va_S A s.heap H locs → ∀ ls : Array Slot, lv_has ls 4 [] → W p l e ({ frames := 3, cells := 0, slots := 0, locals := 67 }) s m args below meth c H locs 0 0 Q (F0 m 127 ls [])) :
    ∀ n : Nat, ∀ (j : Nat), (j ≤ h) → (w ≤ 10) → (h ≤ 10) → (h - j) < n → ∀ (H : Heap) (locs : List Loc), va_P D vwCl [(h0, .inr (4, [.int lk, .ref ly1, .int wc, .ref ly2, .ref ly3, .ref ly4, .int 0, .ref ly5, .int ab])), (fa, .inr (3, [.ref cu, .ref rv, .ref bt, .int 0, .int ho, .int fe])), (rv, .inr (5, [.int (nI w), .int (nI h), .ref q1, .ref q2, .ref q3, .ref q4, .ref q5, .ref q6])), (q1, .inl (cy1, 100, .inl (fun _ => 0)))] H → va_D A [(h0, .inr (4, [.int lk, .ref ly1, .int wc, .ref ly2, .ref ly3, .ref ly4, .int 0, .ref ly5, .int ab])), (fa, .inr (3, [.ref cu, .ref rv, .ref bt, .int 0, .int ho, .int fe])), (rv, .inr (5, [.int (nI w), .int (nI h), .ref q1, .ref q2, .ref q3, .ref q4, .ref q5, .ref q6])), (q1, .inl (cy1, 100, .inl (fun _ => 0)))] → va_S A s.heap H locs → ∀ ls : Array Slot, lv_has ls 4 [(0, .ref h0), (1, .ref fa), (2, .int (nI j))] → W p l e ({ frames := 3, cells := 0, slots := 0, locals := 67 }) s m args below meth c H locs 0 0 Q (F0 m 7 ls []) := by
  intro n
  induction n with
  | zero => intro j b1 h3 h4 hn; exact absurd hn (Nat.not_lt_zero _)
  | succ n ih =>
    intro j b1 h3 h4 hn H locs hP hD hS ls hl
    obtain ⟨hx, hb, hml, hown, hts⟩ := id F
    refine lv_iload_n hx hb dX4_gatherOpen_7 rfl (lv_at hl 2 rfl) ?_
    refine lv_aload_n hx hb dX4_gatherOpen_8 rfl (lv_at hl 1 rfl) ?_
    refine va_get (D := D) (ci := 3) (v := .ref rv) (C := RX3) (T := TX3) (N := 6) hx hb hts inG_X3 hown hK hP 1 rfl rfl 1 (by decide) (hts _ kw_1_220) (fun _ h9 => h9) rfl dX4_gatherOpen_9 ?_
    refine va_get (D := D) (ci := 5) (v := .int (nI h)) (C := RX6) (T := TX6) (N := 8) hx hb hts inG_X6 hown hK hP 2 rfl rfl 1 (by decide) (hts _ kw_1_146) (fun _ h9 => h9) rfl dX4_gatherOpen_12 ?_
    refine lv_icmp_ge (tgt := 127) hx hb dX4_gatherOpen_15 (by decide) (fun c_1 => ?_) (fun c_1 => ?_)
    · skip
      have c_1n : h ≤ j := (nI_leI (by omega) (by omega)).mp c_1
      have c_1 := Int32.not_lt.mpr c_1
      exact kx_127   H locs (hP.sub [0, 1, 2, 3] rfl) (hD.sub [0, 1, 2, 3] (by decide) rfl) hS ls (lv_sub hl [] rfl)
    · skip
      have c_1n : j < h := nb_le (by omega) (by omega) c_1
      have c_1 := Int32.not_le.mp c_1
      refine lv_iconst (v := 0) hx hb dX4_gatherOpen_18 (by decide) ?_
      refine lv_istore_n (lv' := [(3, .int 0), (0, .ref h0), (1, .ref fa), (2, .int (nI j))]) hx hb dX4_gatherOpen_19 rfl hl (by decide) rfl (fun ls hl => ?_)
      refine lp_gather_in F hA h0 ly1 ly2 ly3 ly4 ly5 fa cu rv bt q1 q2 q3 q4 q5 q6 cy1 w h lk wc ab ho fe j (hK.sub [0] rfl) (fun   H locs hP hD hS ls hl => ?_) _ 0 (by omega) (by omega) (by omega) (by omega) (Nat.lt_succ_self _) _ _ (hP.sub [0, 1, 2, 3] rfl) (hD.sub [0, 1, 2, 3] (by decide) rfl) hS ls (lv_sub hl [1, 2, 3, 0] rfl)
      refine lv_iinc (v := nI (j + 1)) (lv' := [(2, .int (nI (j + 1))), (0, .ref h0), (1, .ref fa)]) hx hb dX4_gatherOpen_121 hl (k := 2) rfl (nI_add j 1) (by decide) rfl (fun ls hl => ?_)
      refine lv_goto (tgt := 7) hx hb dX4_gatherOpen_124 (by decide) ?_
      exact ih (j + 1) (by omega) (by omega) (by omega) (by omega) H locs (hP.sub [0, 1, 2, 3] rfl) (hD.sub [0, 1, 2, 3] (by decide) rfl) hS ls (lv_sub hl [1, 2, 0] rfl)
theorem dX4_gatherOpen_0 : decode cX4_gatherOpen 0 = .ok (.aload_n 0, 1) := by decide +kernel
theorem dX4_gatherOpen_1 : decode cX4_gatherOpen 1 = .ok (.iconst 0, 1) := by decide +kernel
theorem kw_2_20 : Cond.fieldLink RX4 90 "IceFair$Laying" "openCount" "I" ∈ gw := gw_t2 (List.mem_of_getElem? (i := 20) (by decide +kernel)) (by decide +kernel)
theorem dX4_gatherOpen_2 : decode cX4_gatherOpen 2 = .ok (.putfield 90, 3) := by decide +kernel
theorem dX4_gatherOpen_5 : decode cX4_gatherOpen 5 = .ok (.iconst 0, 1) := by decide +kernel
theorem dX4_gatherOpen_6 : decode cX4_gatherOpen 6 = .ok (.istore_n 2, 1) := by decide +kernel
theorem dX4_gatherOpen_127 : decode cX4_gatherOpen 127 = .ok (.return_, 1) := by decide +kernel
set_option maxHeartbeats 4000000 in
set_option maxRecDepth 100000 in
theorem c_gatherO0 (l : Launch) (D : va_G) (h0 : Nat) (ly1 : Nat) (ly2 : Nat) (ly3 : Nat) (ly4 : Nat) (ly5 : Nat) (fa : Nat) (cu : Nat) (rv : Nat) (bt : Nat) (q1 : Nat) (q2 : Nat) (q3 : Nat) (q4 : Nat) (q5 : Nat) (q6 : Nat) (cy1 : ClassId) (w : Nat) (h : Nat) (lk : Int32) (wc : Int32) (ab : Int32) (ho : Int32) (fe : Int32) (oc : Int32) (h3 : w ≤ 10) (h4 : h ≤ 10) : cV l yX4_gatherOpen (.code yX4_gatherOpen cX4_gatherOpen 4 none) ({ frames := 3, cells := 0, slots := 0, locals := 67 }) D [(cy1, .int)] [(h0, .inr (4, [.int lk, .ref ly1, .int wc, .ref ly2, .ref ly3, .ref ly4, .int oc, .ref ly5, .int ab])), (fa, .inr (3, [.ref cu, .ref rv, .ref bt, .int 0, .int ho, .int fe])), (rv, .inr (5, [.int (nI w), .int (nI h), .ref q1, .ref q2, .ref q3, .ref q4, .ref q5, .ref q6])), (q1, .inl (cy1, 100, .inl (fun _ => 0)))] xT [.ref h0, .ref fa] (S := Unit) (fun _ => True) (fun _ => []) (fun _ => [(h0, .inr (4, [.int lk, .ref ly1, .int wc, .ref ly2, .ref ly3, .ref ly4, .int 0, .ref ly5, .int ab])), (fa, .inr (3, [.ref cu, .ref rv, .ref bt, .int 0, .int ho, .int fe])), (rv, .inr (5, [.int (nI w), .int (nI h), .ref q1, .ref q2, .ref q3, .ref q4, .ref q5, .ref q6])), (q1, .inl (cy1, 100, .inl (fun _ => 0)))]) := by
  intro sz
  refine Met.ofW (cc := cX4_gatherOpen) (maxL := 4) (ret := none) (by decide) rfl ?_
  intro p e s m args below meth c s₁ B hml hv
  obtain ⟨rfl, hsz, hP, hK, hD0, hX⟩ := hv
  have hx := B.exec
  have hb := B.bytes
  have hr := B.returns
  have hts0 := atoms_spec (ws := .code yX4_gatherOpen cX4_gatherOpen 4 none :: gw) B.pre
  have hts := fun (w : Cond) (h : w ∈ gw) => hts0 w (List.mem_cons_of_mem _ h)
  have hown : s.vm.findClass RX4 = some m.cls := findClass_of_methodNamed B.named
  have hlocks := B.notSynchronized
  have F : mFix p s m _ c cX4_gatherOpen 4 RX4 := ⟨hx, hb, hml, hown, hts⟩
  subst hsz
  have hD := hD0.self (sz := s.heap.size)
  generalize hAe : va_A [(h0, .inr (4, [.int lk, .ref ly1, .int wc, .ref ly2, .ref ly3, .ref ly4, .int oc, .ref ly5, .int ab])), (fa, .inr (3, [.ref cu, .ref rv, .ref bt, .int 0, .int ho, .int fe])), (rv, .inr (5, [.int (nI w), .int (nI h), .ref q1, .ref q2, .ref q3, .ref q4, .ref q5, .ref q6])), (q1, .inl (cy1, 100, .inl (fun _ => 0)))] s.heap.size = A at hD hX ⊢
  have hA : ∀ q : Nat, s.heap.size ≤ q → A q := fun q h => by rw [← hAe]; exact Or.inr h
  have hS : va_S A s.heap s.heap [] := va_S.rf
  have hl := lv_entry ([.ref h0, .ref fa]) (n := 4) (Nat.le_of_ble_eq_true rfl)
  rw [lg_entry_eq]
  generalize (lg_sl ([.ref h0, .ref fa]) ++ List.replicate (4 - (lg_sl ([.ref h0, .ref fa])).length) Slot.unset).toArray = ls at hl ⊢
  have hl : lv_has ls 4 [(0, .ref h0), (1, .ref fa)] := hl
  have hP : va_P D vwCl [(h0, .inr (4, [.int lk, .ref ly1, .int wc, .ref ly2, .ref ly3, .ref ly4, .int oc, .ref ly5, .int ab])), (fa, .inr (3, [.ref cu, .ref rv, .ref bt, .int 0, .int ho, .int fe])), (rv, .inr (5, [.int (nI w), .int (nI h), .ref q1, .ref q2, .ref q3, .ref q4, .ref q5, .ref q6])), (q1, .inl (cy1, 100, .inl (fun _ => 0)))] s.heap := hP
  refine lv_aload_n hx hb dX4_gatherOpen_0 rfl (lv_at hl 0 rfl) ?_
  refine lv_iconst (v := 0) hx hb dX4_gatherOpen_1 (by decide) ?_
  refine va_put (D := D) (ci := 4) (v := .int 0) (ty := .int) (C := RX4) (T := TX4) (N := 9) hx hb hts inG_X4 tyX4 tyX4_ok nmX4 hown hK hP hD hS 0 rfl rfl 6 (by decide) (hts _ kw_2_20) (fun _ h9 => h9) rfl (by decide +kernel) rfl rfl (Nat.le_of_ble_eq_true rfl) dX4_gatherOpen_2 (fun H locs hP hD hS => ?_)
  have hP : va_P D vwCl [(h0, .inr (4, [.int lk, .ref ly1, .int wc, .ref ly2, .ref ly3, .ref ly4, .int 0, .ref ly5, .int ab])), (fa, .inr (3, [.ref cu, .ref rv, .ref bt, .int 0, .int ho, .int fe])), (rv, .inr (5, [.int (nI w), .int (nI h), .ref q1, .ref q2, .ref q3, .ref q4, .ref q5, .ref q6])), (q1, .inl (cy1, 100, .inl (fun _ => 0)))] H := hP
  have hD : va_D A [(h0, .inr (4, [.int lk, .ref ly1, .int wc, .ref ly2, .ref ly3, .ref ly4, .int 0, .ref ly5, .int ab])), (fa, .inr (3, [.ref cu, .ref rv, .ref bt, .int 0, .int ho, .int fe])), (rv, .inr (5, [.int (nI w), .int (nI h), .ref q1, .ref q2, .ref q3, .ref q4, .ref q5, .ref q6])), (q1, .inl (cy1, 100, .inl (fun _ => 0)))] := hD
  refine lv_iconst (v := 0) hx hb dX4_gatherOpen_5 (by decide) ?_
  refine lv_istore_n (lv' := [(2, .int 0), (0, .ref h0), (1, .ref fa)]) hx hb dX4_gatherOpen_6 rfl hl (by decide) rfl (fun ls hl => ?_)
  refine lp_gather_out F hA h0 ly1 ly2 ly3 ly4 ly5 fa cu rv bt q1 q2 q3 q4 q5 q6 cy1 w h lk wc ab ho fe (hK.sub [0] rfl) (fun   H locs hP hD hS ls hl => ?_) _ 0 (by omega) (by omega) (by omega) (Nat.lt_succ_self _) _ _ (hP.sub [0, 1, 2, 3] rfl) (hD.sub [0, 1, 2, 3] (by decide) rfl) hS ls (lv_sub hl [1, 2, 0] rfl)
  have hP9 := hP.sub (ws' := [(h0, .inr (4, [.int lk, .ref ly1, .int wc, .ref ly2, .ref ly3, .ref ly4, .int 0, .ref ly5, .int ab])), (fa, .inr (3, [.ref cu, .ref rv, .ref bt, .int 0, .int ho, .int fe])), (rv, .inr (5, [.int (nI w), .int (nI h), .ref q1, .ref q2, .ref q3, .ref q4, .ref q5, .ref q6])), (q1, .inl (cy1, 100, .inl (fun _ => 0)))]) [0, 1, 2, 3] rfl
  have hD9 := hD.sub (ws' := [(h0, .inr (4, [.int lk, .ref ly1, .int wc, .ref ly2, .ref ly3, .ref ly4, .int 0, .ref ly5, .int ab])), (fa, .inr (3, [.ref cu, .ref rv, .ref bt, .int 0, .int ho, .int fe])), (rv, .inr (5, [.int (nI w), .int (nI h), .ref q1, .ref q2, .ref q3, .ref q4, .ref q5, .ref q6])), (q1, .inl (cy1, 100, .inl (fun _ => 0)))]) [0, 1, 2, 3] (by decide) rfl
  have hK9 := hK.sub (tys' := []) [] rfl
  refine W.widen (k := 0) (n := 0) (by decide) (by decide) ?_
  exact W.vret hx hb hr (fun t ht hW => ⟨⟨(), rfl, trivial, by rw [ht]; exact hP9, va_K.moved hW.alike hK9, hD9⟩, hS.F ht⟩) hS.2.2 dX4_gatherOpen_127
theorem dX4_findRow_0 : decode cX4_findRow 0 = .ok (.iconst 0, 1) := by decide +kernel
theorem dX4_findRow_1 : decode cX4_findRow 1 = .ok (.istore_n 2, 1) := by decide +kernel
theorem dX4_findRow_2 : decode cX4_findRow 2 = .ok (.aload_n 0, 1) := by decide +kernel
theorem dX4_findRow_3 : decode cX4_findRow 3 = .ok (.getfield 25, 3) := by decide +kernel
theorem dX4_findRow_6 : decode cX4_findRow 6 = .ok (.iconst 0, 1) := by decide +kernel
theorem dX4_findRow_7 : decode cX4_findRow 7 = .ok (.iconst (-1), 1) := by decide +kernel
theorem dX4_findRow_8 : decode cX4_findRow 8 = .ok (.iastore, 1) := by decide +kernel
theorem dX4_findRow_9 : decode cX4_findRow 9 = .ok (.iconst 0, 1) := by decide +kernel
theorem dX4_findRow_10 : decode cX4_findRow 10 = .ok (.istore_n 3, 1) := by decide +kernel
theorem dX4_findRow_11 : decode cX4_findRow 11 = .ok (.iload_n 3, 1) := by decide +kernel
theorem kw_3_211 : Cond.constant RX4 110 40100 ∈ gw := gw_t3 (List.mem_of_getElem? (i := 211) (by decide +kernel)) (by decide +kernel)
theorem dX4_findRow_12 : decode cX4_findRow 12 = .ok (.ldc 110, 2) := by decide +kernel
theorem dX4_findRow_14 : decode cX4_findRow 14 = .ok (.if_icmp .ge 76, 3) := by decide +kernel
theorem dX4_findRow_17 : decode cX4_findRow 17 = .ok (.iload_n 2, 1) := by decide +kernel
theorem dX4_findRow_18 : decode cX4_findRow 18 = .ok (.aload_n 0, 1) := by decide +kernel
theorem dX4_findRow_19 : decode cX4_findRow 19 = .ok (.getfield 75, 3) := by decide +kernel
theorem dX4_findRow_22 : decode cX4_findRow 22 = .ok (.if_icmp .ge 68, 3) := by decide +kernel
theorem dX4_findRow_90 : decode cX4_findRow 90 = .ok (.iload_n 2, 1) := by decide +kernel
theorem dX4_findRow_91 : decode cX4_findRow 91 = .ok (.aload_n 0, 1) := by decide +kernel
theorem dX4_findRow_92 : decode cX4_findRow 92 = .ok (.getfield 75, 3) := by decide +kernel
theorem dX4_findRow_95 : decode cX4_findRow 95 = .ok (.if_icmp .lt 7, 3) := by decide +kernel
theorem dX4_findRow_98 : decode cX4_findRow 98 = .ok (.iconst 1, 1) := by decide +kernel
theorem dX4_findRow_99 : decode cX4_findRow 99 = .ok (.goto 4, 3) := by decide +kernel
theorem dX4_findRow_103 : decode cX4_findRow 103 = .ok (.ireturn, 1) := by decide +kernel
set_option maxHeartbeats 4000000 in
set_option maxRecDepth 100000 in
theorem c_findRow0 (l : Launch) (D : va_G) (h0 : Nat) (fa : Nat) (ly1 : Nat) (ly2 : Nat) (ly3 : Nat) (ly4 : Nat) (ly5 : Nat) (lc5 : ClassId) (f5 : Nat → Int32) (lk : Int32) (oc : Int32) (ab : Int32) : cI l yX4_findRow (.code yX4_findRow cX4_findRow 4 (some .boolean)) ({ frames := 4, cells := 0, slots := 0, locals := 132 }) D [(lc5, .int)] [(h0, .inr (4, [.int lk, .ref ly1, .int 0, .ref ly2, .ref ly3, .ref ly4, .int oc, .ref ly5, .int ab])), (ly5, .inl (lc5, 10, .inl f5))] xT [.ref h0, .ref fa] (S := Unit) (fun r _ => r = 1) (fun _ => []) (fun _ => [(h0, .inr (4, [.int lk, .ref ly1, .int 0, .ref ly2, .ref ly3, .ref ly4, .int oc, .ref ly5, .int ab]))]) := by
  intro sz
  refine Met.ofW (cc := cX4_findRow) (maxL := 4) (ret := (some .boolean)) (by decide) rfl ?_
  intro p e s m args below meth c s₁ B hml hv
  obtain ⟨rfl, hsz, hP, hK, hD0, hX⟩ := hv
  have hx := B.exec
  have hb := B.bytes
  have hr := B.returns
  have hts0 := atoms_spec (ws := .code yX4_findRow cX4_findRow 4 (some .boolean) :: gw) B.pre
  have hts := fun (w : Cond) (h : w ∈ gw) => hts0 w (List.mem_cons_of_mem _ h)
  have hown : s.vm.findClass RX4 = some m.cls := findClass_of_methodNamed B.named
  have hlocks := B.notSynchronized
  have F : mFix p s m _ c cX4_findRow 4 RX4 := ⟨hx, hb, hml, hown, hts⟩
  subst hsz
  have hD := hD0.self (sz := s.heap.size)
  generalize hAe : va_A [(h0, .inr (4, [.int lk, .ref ly1, .int 0, .ref ly2, .ref ly3, .ref ly4, .int oc, .ref ly5, .int ab])), (ly5, .inl (lc5, 10, .inl f5))] s.heap.size = A at hD hX ⊢
  have hA : ∀ q : Nat, s.heap.size ≤ q → A q := fun q h => by rw [← hAe]; exact Or.inr h
  have hS : va_S A s.heap s.heap [] := va_S.rf
  have hl := lv_entry ([.ref h0, .ref fa]) (n := 4) (Nat.le_of_ble_eq_true rfl)
  rw [lg_entry_eq]
  generalize (lg_sl ([.ref h0, .ref fa]) ++ List.replicate (4 - (lg_sl ([.ref h0, .ref fa])).length) Slot.unset).toArray = ls at hl ⊢
  have hl : lv_has ls 4 [(0, .ref h0), (1, .ref fa)] := hl
  have hP : va_P D vwCl [(h0, .inr (4, [.int lk, .ref ly1, .int 0, .ref ly2, .ref ly3, .ref ly4, .int oc, .ref ly5, .int ab])), (ly5, .inl (lc5, 10, .inl f5))] s.heap := hP
  refine lv_iconst (v := 0) hx hb dX4_findRow_0 (by decide) ?_
  refine lv_istore_n (lv' := [(2, .int 0), (0, .ref h0), (1, .ref fa)]) hx hb dX4_findRow_1 rfl hl (by decide) rfl (fun ls hl => ?_)
  refine lv_aload_n hx hb dX4_findRow_2 rfl (lv_at hl 1 rfl) ?_
  refine va_get (D := D) (ci := 4) (v := .ref ly5) (C := RX4) (T := TX4) (N := 9) hx hb hts inG_X4 hown hK hP 0 rfl rfl 7 (by decide) (hts _ kw_2_21) (fun _ h9 => h9) rfl dX4_findRow_3 ?_
  refine lv_iconst (v := 0) hx hb dX4_findRow_6 (by decide) ?_
  refine lv_iconst (v := -1) hx hb dX4_findRow_7 (by decide) ?_
  refine m_iast hx hb hK hP hD hS 1 0 rfl rfl 0 rfl (by decide) (by decide) dX4_findRow_8 (fun g_1 H locs eg_1 hP hD hS => ?_)
  have hP : va_P D vwCl [(h0, .inr (4, [.int lk, .ref ly1, .int 0, .ref ly2, .ref ly3, .ref ly4, .int oc, .ref ly5, .int ab])), (ly5, .inl (lc5, 10, .inl g_1))] H := hP
  have hD : va_D A [(h0, .inr (4, [.int lk, .ref ly1, .int 0, .ref ly2, .ref ly3, .ref ly4, .int oc, .ref ly5, .int ab])), (ly5, .inl (lc5, 10, .inl g_1))] := hD
  refine lv_iconst (v := 0) hx hb dX4_findRow_9 (by decide) ?_
  refine lv_istore_n (lv' := [(3, .int 0), (2, .int 0), (0, .ref h0), (1, .ref fa)]) hx hb dX4_findRow_10 rfl hl (by decide) rfl (fun ls hl => ?_)
  refine lv_iload_n hx hb dX4_findRow_11 rfl (lv_at hl 0 rfl) ?_
  refine lv_ldc (v := 40100) hx hb hown (hts _ kw_3_211) dX4_findRow_12 ?_
  refine lv_icmp_ge (tgt := 90) hx hb dX4_findRow_14 (by decide) (fun c_2 => absurd c_2 (by decide)) (fun c_2 => ?_)
  refine lv_iload_n hx hb dX4_findRow_17 rfl (lv_at hl 1 rfl) ?_
  refine lv_aload_n hx hb dX4_findRow_18 rfl (lv_at hl 2 rfl) ?_
  refine va_get (D := D) (ci := 4) (v := .int 0) (C := RX4) (T := TX4) (N := 9) hx hb hts inG_X4 hown hK hP 0 rfl rfl 2 (by decide) (hts _ kw_2_16) (fun _ h9 => h9) rfl dX4_findRow_19 ?_
  refine lv_icmp_ge (tgt := 90) hx hb dX4_findRow_22 (by decide) (fun c_3 => ?_) (fun c_3 => absurd c_3 (by decide))
  refine lv_iload_n hx hb dX4_findRow_90 rfl (lv_at hl 1 rfl) ?_
  refine lv_aload_n hx hb dX4_findRow_91 rfl (lv_at hl 2 rfl) ?_
  refine va_get (D := D) (ci := 4) (v := .int 0) (C := RX4) (T := TX4) (N := 9) hx hb hts inG_X4 hown hK hP 0 rfl rfl 2 (by decide) (hts _ kw_2_16) (fun _ h9 => h9) rfl dX4_findRow_92 ?_
  refine lv_icmp_lt (tgt := 102) hx hb dX4_findRow_95 (by decide) (fun c_4 => absurd c_4 (by decide)) (fun c_4 => ?_)
  refine lv_iconst (v := 1) hx hb dX4_findRow_98 (by decide) ?_
  refine lv_goto (tgt := 103) hx hb dX4_findRow_99 (by decide) ?_
  have hP9 := hP.sub (ws' := [(h0, .inr (4, [.int lk, .ref ly1, .int 0, .ref ly2, .ref ly3, .ref ly4, .int oc, .ref ly5, .int ab]))]) [0] rfl
  have hD9 := hD.sub (ws' := [(h0, .inr (4, [.int lk, .ref ly1, .int 0, .ref ly2, .ref ly3, .ref ly4, .int oc, .ref ly5, .int ab]))]) [0] (by decide) rfl
  have hK9 := hK.sub (tys' := []) [] rfl
  refine W.widen (k := 0) (n := 0) (by decide) (by decide) ?_
  exact W.zret (v := 1) hx hb hr rfl (fun t ht hW => ⟨⟨1, (), rfl, rfl, by rw [ht]; exact hP9, va_K.moved hW.alike hK9, hD9⟩, hS.F ht⟩) hS.2.2 dX4_findRow_103
theorem dX4_takeFees_0 : decode cX4_takeFees 0 = .ok (.iconst 0, 1) := by decide +kernel
theorem dX4_takeFees_1 : decode cX4_takeFees 1 = .ok (.istore_n 2, 1) := by decide +kernel
theorem dX4_takeFees_2 : decode cX4_takeFees 2 = .ok (.iload_n 2, 1) := by decide +kernel
theorem dX4_takeFees_3 : decode cX4_takeFees 3 = .ok (.aload_n 0, 1) := by decide +kernel
theorem dX4_takeFees_4 : decode cX4_takeFees 4 = .ok (.getfield 75, 3) := by decide +kernel
theorem dX4_takeFees_7 : decode cX4_takeFees 7 = .ok (.if_icmp .ge 36, 3) := by decide +kernel
theorem dX4_takeFees_43 : decode cX4_takeFees 43 = .ok (.return_, 1) := by decide +kernel
set_option maxHeartbeats 4000000 in
set_option maxRecDepth 100000 in
theorem c_takeFees0 (l : Launch) (D : va_G) (h0 : Nat) (fa : Nat) (ly1 : Nat) (ly2 : Nat) (ly3 : Nat) (ly4 : Nat) (ly5 : Nat) (lk : Int32) (oc : Int32) (ab : Int32) : cV l yX4_takeFees (.code yX4_takeFees cX4_takeFees 4 none) ({ frames := 2, cells := 0, slots := 0, locals := 42 }) D [] [(h0, .inr (4, [.int lk, .ref ly1, .int 0, .ref ly2, .ref ly3, .ref ly4, .int oc, .ref ly5, .int ab]))] xT [.ref h0, .ref fa] (S := Unit) (fun _ => True) (fun _ => []) (fun _ => [(h0, .inr (4, [.int lk, .ref ly1, .int 0, .ref ly2, .ref ly3, .ref ly4, .int oc, .ref ly5, .int ab]))]) := by
  intro sz
  refine Met.ofW (cc := cX4_takeFees) (maxL := 4) (ret := none) (by decide) rfl ?_
  intro p e s m args below meth c s₁ B hml hv
  obtain ⟨rfl, hsz, hP, hK, hD0, hX⟩ := hv
  have hx := B.exec
  have hb := B.bytes
  have hr := B.returns
  have hts0 := atoms_spec (ws := .code yX4_takeFees cX4_takeFees 4 none :: gw) B.pre
  have hts := fun (w : Cond) (h : w ∈ gw) => hts0 w (List.mem_cons_of_mem _ h)
  have hown : s.vm.findClass RX4 = some m.cls := findClass_of_methodNamed B.named
  have hlocks := B.notSynchronized
  have F : mFix p s m _ c cX4_takeFees 4 RX4 := ⟨hx, hb, hml, hown, hts⟩
  subst hsz
  have hD := hD0.self (sz := s.heap.size)
  generalize hAe : va_A [(h0, .inr (4, [.int lk, .ref ly1, .int 0, .ref ly2, .ref ly3, .ref ly4, .int oc, .ref ly5, .int ab]))] s.heap.size = A at hD hX ⊢
  have hA : ∀ q : Nat, s.heap.size ≤ q → A q := fun q h => by rw [← hAe]; exact Or.inr h
  have hS : va_S A s.heap s.heap [] := va_S.rf
  have hl := lv_entry ([.ref h0, .ref fa]) (n := 4) (Nat.le_of_ble_eq_true rfl)
  rw [lg_entry_eq]
  generalize (lg_sl ([.ref h0, .ref fa]) ++ List.replicate (4 - (lg_sl ([.ref h0, .ref fa])).length) Slot.unset).toArray = ls at hl ⊢
  have hl : lv_has ls 4 [(0, .ref h0), (1, .ref fa)] := hl
  have hP : va_P D vwCl [(h0, .inr (4, [.int lk, .ref ly1, .int 0, .ref ly2, .ref ly3, .ref ly4, .int oc, .ref ly5, .int ab]))] s.heap := hP
  refine lv_iconst (v := 0) hx hb dX4_takeFees_0 (by decide) ?_
  refine lv_istore_n (lv' := [(2, .int 0), (0, .ref h0), (1, .ref fa)]) hx hb dX4_takeFees_1 rfl hl (by decide) rfl (fun ls hl => ?_)
  refine lv_iload_n hx hb dX4_takeFees_2 rfl (lv_at hl 0 rfl) ?_
  refine lv_aload_n hx hb dX4_takeFees_3 rfl (lv_at hl 1 rfl) ?_
  refine va_get (D := D) (ci := 4) (v := .int 0) (C := RX4) (T := TX4) (N := 9) hx hb hts inG_X4 hown hK hP 0 rfl rfl 2 (by decide) (hts _ kw_2_16) (fun _ h9 => h9) rfl dX4_takeFees_4 ?_
  refine lv_icmp_ge (tgt := 43) hx hb dX4_takeFees_7 (by decide) (fun c_1 => ?_) (fun c_1 => absurd c_1 (by decide))
  have hP9 := hP.sub (ws' := [(h0, .inr (4, [.int lk, .ref ly1, .int 0, .ref ly2, .ref ly3, .ref ly4, .int oc, .ref ly5, .int ab]))]) [0] rfl
  have hD9 := hD.sub (ws' := [(h0, .inr (4, [.int lk, .ref ly1, .int 0, .ref ly2, .ref ly3, .ref ly4, .int oc, .ref ly5, .int ab]))]) [0] (by decide) rfl
  have hK9 := hK.sub (tys' := []) [] rfl
  refine W.widen (k := 0) (n := 0) (by decide) (by decide) ?_
  exact W.vret hx hb hr (fun t ht hW => ⟨⟨(), rfl, trivial, by rw [ht]; exact hP9, va_K.moved hW.alike hK9, hD9⟩, hS.F ht⟩) hS.2.2 dX4_takeFees_43
theorem dX4_layAll_0 : decode cX4_layAll 0 = .ok (.aload_n 0, 1) := by decide +kernel
theorem dX4_layAll_1 : decode cX4_layAll 1 = .ok (.iconst 0, 1) := by decide +kernel
theorem kw_2_13 : Cond.fieldLink RX4 28 "IceFair$Laying" "looks" "I" ∈ gw := gw_t2 (List.mem_of_getElem? (i := 13) (by decide +kernel)) (by decide +kernel)
theorem dX4_layAll_2 : decode cX4_layAll 2 = .ok (.putfield 28, 3) := by decide +kernel
theorem dX4_layAll_5 : decode cX4_layAll 5 = .ok (.aload_n 0, 1) := by decide +kernel
theorem dX4_layAll_6 : decode cX4_layAll 6 = .ok (.aload_n 1, 1) := by decide +kernel
theorem kw_3_194 : Cond.methodLink RX4 32 yX4_gatherWaiting ∈ gw := gw_t3 (List.mem_of_getElem? (i := 194) (by decide +kernel)) (by decide +kernel)
theorem kw_3_196 : Cond.instanceMethod yX4_gatherWaiting ∈ gw := gw_t3 (List.mem_of_getElem? (i := 196) (by decide +kernel)) (by decide +kernel)
theorem ks_1_15 : Cond.selects RX4 yX4_gatherWaiting yX4_gatherWaiting ∈ gw := gw_s (y := yX4_gatherWaiting) (n := 9) (List.mem_append_left _ (List.mem_of_getElem? (i := 15) (by decide +kernel)))
theorem kw_3_197 : Cond.code yX4_gatherWaiting cX4_gatherWaiting 3 none ∈ gw := gw_t3 (List.mem_of_getElem? (i := 197) (by decide +kernel)) (by decide +kernel)
theorem gk_X4_32 : GoodIn gw (wsV RX4 32 RX4 yX4_gatherWaiting (.code yX4_gatherWaiting cX4_gatherWaiting 3 none :: gw)) ∧ (yX4_gatherWaiting.cls = RX4 ∧ yX4_gatherWaiting.cls ≠ "java/lang/invoke/MethodHandle" ∧ yX4_gatherWaiting.cls ≠ "java/lang/invoke/VarHandle" ∧ (parseMethodDescriptor yX4_gatherWaiting.desc).map (fun d => d.parameters.length) = some 1) := ⟨gi_V kw_3_194 kw_3_196 ks_1_15 kw_1_9 kw_3_197, by decide +kernel⟩
theorem dX4_layAll_7 : decode cX4_layAll 7 = .ok (.invokevirtual 32, 3) := by decide +kernel
theorem dX4_layAll_10 : decode cX4_layAll 10 = .ok (.aload_n 0, 1) := by decide +kernel
theorem dX4_layAll_11 : decode cX4_layAll 11 = .ok (.aload_n 1, 1) := by decide +kernel
theorem kw_3_198 : Cond.methodLink RX4 36 yX4_gatherOpen ∈ gw := gw_t3 (List.mem_of_getElem? (i := 198) (by decide +kernel)) (by decide +kernel)
theorem kw_3_200 : Cond.instanceMethod yX4_gatherOpen ∈ gw := gw_t3 (List.mem_of_getElem? (i := 200) (by decide +kernel)) (by decide +kernel)
theorem ks_2_0 : Cond.selects RX4 yX4_gatherOpen yX4_gatherOpen ∈ gw := gw_s (y := yX4_gatherOpen) (n := 9) (List.mem_append_right _ (List.mem_append_left _ (List.mem_of_getElem? (i := 0) (by decide +kernel))))
theorem kw_3_201 : Cond.code yX4_gatherOpen cX4_gatherOpen 4 none ∈ gw := gw_t3 (List.mem_of_getElem? (i := 201) (by decide +kernel)) (by decide +kernel)
theorem gk_X4_36 : GoodIn gw (wsV RX4 36 RX4 yX4_gatherOpen (.code yX4_gatherOpen cX4_gatherOpen 4 none :: gw)) ∧ (yX4_gatherOpen.cls = RX4 ∧ yX4_gatherOpen.cls ≠ "java/lang/invoke/MethodHandle" ∧ yX4_gatherOpen.cls ≠ "java/lang/invoke/VarHandle" ∧ (parseMethodDescriptor yX4_gatherOpen.desc).map (fun d => d.parameters.length) = some 1) := ⟨gi_V kw_3_198 kw_3_200 ks_2_0 kw_1_9 kw_3_201, by decide +kernel⟩
theorem dX4_layAll_12 : decode cX4_layAll 12 = .ok (.invokevirtual 36, 3) := by decide +kernel
theorem dX4_layAll_15 : decode cX4_layAll 15 = .ok (.aload_n 0, 1) := by decide +kernel
theorem dX4_layAll_16 : decode cX4_layAll 16 = .ok (.aload_n 1, 1) := by decide +kernel
theorem dX4_layAll_17 : decode cX4_layAll 17 = .ok (.getfield 39, 3) := by decide +kernel
theorem dX4_layAll_20 : decode cX4_layAll 20 = .ok (.aload_n 1, 1) := by decide +kernel
theorem kw_1_217 : Cond.fieldLink RX4 45 "IceFair$Fair" "customs" "LIceFair$Customs;" ∈ gw := gw_t1 (List.mem_of_getElem? (i := 217) (by decide +kernel)) (by decide +kernel)
theorem dX4_layAll_21 : decode cX4_layAll 21 = .ok (.getfield 45, 3) := by decide +kernel
theorem kw_3_205 : Cond.methodLink RX4 49 yX1_bear ∈ gw := gw_t3 (List.mem_of_getElem? (i := 205) (by decide +kernel)) (by decide +kernel)
theorem gk_X4_49 : GoodIn gw (wsV RX4 49 RX1 yX1_bear (.code yX1_bear cX1_bear 1 (some .int) :: gw)) ∧ (yX1_bear.cls = RX1 ∧ yX1_bear.cls ≠ "java/lang/invoke/MethodHandle" ∧ yX1_bear.cls ≠ "java/lang/invoke/VarHandle" ∧ (parseMethodDescriptor yX1_bear.desc).map (fun d => d.parameters.length) = some 0) := ⟨gi_V kw_3_205 kw_3_56 kw_3_57 kw_1_4 kw_3_58, by decide +kernel⟩
theorem dX4_layAll_24 : decode cX4_layAll 24 = .ok (.invokevirtual 49, 3) := by decide +kernel
theorem kw_3_206 : Cond.methodLink RX4 55 yX6_bearsAll ∈ gw := gw_t3 (List.mem_of_getElem? (i := 206) (by decide +kernel)) (by decide +kernel)
theorem kw_3_60 : Cond.instanceMethod yX6_bearsAll ∈ gw := gw_t3 (List.mem_of_getElem? (i := 60) (by decide +kernel)) (by decide +kernel)
theorem kw_3_61 : Cond.selects RX6 yX6_bearsAll yX6_bearsAll ∈ gw := gw_t3 (List.mem_of_getElem? (i := 61) (by decide +kernel)) (by decide +kernel)
theorem kw_3_62 : Cond.code yX6_bearsAll cX6_bearsAll 5 (some .boolean) ∈ gw := gw_t3 (List.mem_of_getElem? (i := 62) (by decide +kernel)) (by decide +kernel)
theorem gk_X4_55 : GoodIn gw (wsV RX4 55 RX6 yX6_bearsAll (.code yX6_bearsAll cX6_bearsAll 5 (some .boolean) :: gw)) ∧ (yX6_bearsAll.cls = RX6 ∧ yX6_bearsAll.cls ≠ "java/lang/invoke/MethodHandle" ∧ yX6_bearsAll.cls ≠ "java/lang/invoke/VarHandle" ∧ (parseMethodDescriptor yX6_bearsAll.desc).map (fun d => d.parameters.length) = some 1) := ⟨gi_V kw_3_206 kw_3_60 kw_3_61 kw_1_7 kw_3_62, by decide +kernel⟩
theorem dX4_layAll_27 : decode cX4_layAll 27 = .ok (.invokevirtual 55, 3) := by decide +kernel
theorem kw_2_22 : Cond.fieldLink RX4 61 "IceFair$Laying" "allBears" "Z" ∈ gw := gw_t2 (List.mem_of_getElem? (i := 22) (by decide +kernel)) (by decide +kernel)
theorem dX4_layAll_30 : decode cX4_layAll 30 = .ok (.putfield 61, 3) := by decide +kernel
theorem dX4_layAll_33 : decode cX4_layAll 33 = .ok (.aload_n 0, 1) := by decide +kernel
theorem dX4_layAll_34 : decode cX4_layAll 34 = .ok (.aload_n 1, 1) := by decide +kernel
theorem kw_3_207 : Cond.methodLink RX4 65 yX4_findRow ∈ gw := gw_t3 (List.mem_of_getElem? (i := 207) (by decide +kernel)) (by decide +kernel)
theorem kw_3_209 : Cond.instanceMethod yX4_findRow ∈ gw := gw_t3 (List.mem_of_getElem? (i := 209) (by decide +kernel)) (by decide +kernel)
theorem ks_2_1 : Cond.selects RX4 yX4_findRow yX4_findRow ∈ gw := gw_s (y := yX4_findRow) (n := 9) (List.mem_append_right _ (List.mem_append_left _ (List.mem_of_getElem? (i := 1) (by decide +kernel))))
theorem kw_3_210 : Cond.code yX4_findRow cX4_findRow 4 (some .boolean) ∈ gw := gw_t3 (List.mem_of_getElem? (i := 210) (by decide +kernel)) (by decide +kernel)
theorem gk_X4_65 : GoodIn gw (wsV RX4 65 RX4 yX4_findRow (.code yX4_findRow cX4_findRow 4 (some .boolean) :: gw)) ∧ (yX4_findRow.cls = RX4 ∧ yX4_findRow.cls ≠ "java/lang/invoke/MethodHandle" ∧ yX4_findRow.cls ≠ "java/lang/invoke/VarHandle" ∧ (parseMethodDescriptor yX4_findRow.desc).map (fun d => d.parameters.length) = some 1) := ⟨gi_V kw_3_207 kw_3_209 ks_2_1 kw_1_9 kw_3_210, by decide +kernel⟩
theorem dX4_layAll_35 : decode cX4_layAll 35 = .ok (.invokevirtual 65, 3) := by decide +kernel
theorem dX4_layAll_38 : decode cX4_layAll 38 = .ok (.ifCond .ne 25, 3) := by decide +kernel
theorem dX4_layAll_63 : decode cX4_layAll 63 = .ok (.aload_n 0, 1) := by decide +kernel
theorem dX4_layAll_64 : decode cX4_layAll 64 = .ok (.aload_n 1, 1) := by decide +kernel
theorem kw_3_229 : Cond.methodLink RX4 72 yX4_takeFees ∈ gw := gw_t3 (List.mem_of_getElem? (i := 229) (by decide +kernel)) (by decide +kernel)
theorem kw_3_231 : Cond.instanceMethod yX4_takeFees ∈ gw := gw_t3 (List.mem_of_getElem? (i := 231) (by decide +kernel)) (by decide +kernel)
theorem ks_2_5 : Cond.selects RX4 yX4_takeFees yX4_takeFees ∈ gw := gw_s (y := yX4_takeFees) (n := 9) (List.mem_append_right _ (List.mem_append_left _ (List.mem_of_getElem? (i := 5) (by decide +kernel))))
theorem kw_3_232 : Cond.code yX4_takeFees cX4_takeFees 4 none ∈ gw := gw_t3 (List.mem_of_getElem? (i := 232) (by decide +kernel)) (by decide +kernel)
theorem gk_X4_72 : GoodIn gw (wsV RX4 72 RX4 yX4_takeFees (.code yX4_takeFees cX4_takeFees 4 none :: gw)) ∧ (yX4_takeFees.cls = RX4 ∧ yX4_takeFees.cls ≠ "java/lang/invoke/MethodHandle" ∧ yX4_takeFees.cls ≠ "java/lang/invoke/VarHandle" ∧ (parseMethodDescriptor yX4_takeFees.desc).map (fun d => d.parameters.length) = some 1) := ⟨gi_V kw_3_229 kw_3_231 ks_2_5 kw_1_9 kw_3_232, by decide +kernel⟩
theorem dX4_layAll_65 : decode cX4_layAll 65 = .ok (.invokevirtual 72, 3) := by decide +kernel
theorem dX4_layAll_68 : decode cX4_layAll 68 = .ok (.aload_n 0, 1) := by decide +kernel
theorem dX4_layAll_69 : decode cX4_layAll 69 = .ok (.getfield 75, 3) := by decide +kernel
theorem dX4_layAll_72 : decode cX4_layAll 72 = .ok (.ireturn, 1) := by decide +kernel
set_option maxHeartbeats 4000000 in
set_option maxRecDepth 100000 in
theorem c_layAll0 (l : Launch) (D : va_G) (h0 : Nat) (ly1 : Nat) (ly2 : Nat) (ly3 : Nat) (ly4 : Nat) (ly5 : Nat) (fa : Nat) (cu : Nat) (rv : Nat) (bt : Nat) (cu1 : Nat) (cu2 : Nat) (cu3 : Nat) (cu4 : Nat) (q1 : Nat) (q2 : Nat) (q3 : Nat) (q4 : Nat) (q5 : Nat) (q6 : Nat) (lc5 : ClassId) (cc1 : ClassId) (cy1 : ClassId) (cy3 : ClassId) (f5 : Nat → Int32) (lk : Int32) (wc : Int32) (oc : Int32) (ab : Int32) (ho : Int32) (fe : Int32) (w : Nat) (h : Nat) (h3 : w ≤ 10) (h4 : h ≤ 10) : cI l yX4_layAll (.code yX4_layAll cX4_layAll 2 (some .int)) ({ frames := 5, cells := 0, slots := 0, locals := 155 }) D [(lc5, .int), (cc1, .int), (cy1, .int), (cy3, .int)] [(h0, .inr (4, [.int lk, .ref ly1, .int wc, .ref ly2, .ref ly3, .ref ly4, .int oc, .ref ly5, .int ab])), (ly5, .inl (lc5, 10, .inl f5)), (fa, .inr (3, [.ref cu, .ref rv, .ref bt, .int 0, .int ho, .int fe])), (cu, .inr (1, [.ref cu1, .ref cu2, .ref cu3, .ref cu4, .int 0, .int 0])), (cu1, .inl (cc1, 8, .inl uF)), (rv, .inr (5, [.int (nI w), .int (nI h), .ref q1, .ref q2, .ref q3, .ref q4, .ref q5, .ref q6])), (q1, .inl (cy1, 100, .inl (fun _ => 0))), (q3, .inl (cy3, 100, .inl (fun _ => 0)))] xT [.ref h0, .ref fa] (S := Unit) (fun r _ => r = 0) (fun _ => []) (fun _ => []) := by
  intro sz
  refine Met.ofW (cc := cX4_layAll) (maxL := 2) (ret := (some .int)) (by decide) rfl ?_
  intro p e s m args below meth c s₁ B hml hv
  obtain ⟨rfl, hsz, hP, hK, hD0, hX⟩ := hv
  have hx := B.exec
  have hb := B.bytes
  have hr := B.returns
  have hts0 := atoms_spec (ws := .code yX4_layAll cX4_layAll 2 (some .int) :: gw) B.pre
  have hts := fun (w : Cond) (h : w ∈ gw) => hts0 w (List.mem_cons_of_mem _ h)
  have hown : s.vm.findClass RX4 = some m.cls := findClass_of_methodNamed B.named
  have hlocks := B.notSynchronized
  have F : mFix p s m _ c cX4_layAll 2 RX4 := ⟨hx, hb, hml, hown, hts⟩
  subst hsz
  have hD := hD0.self (sz := s.heap.size)
  generalize hAe : va_A [(h0, .inr (4, [.int lk, .ref ly1, .int wc, .ref ly2, .ref ly3, .ref ly4, .int oc, .ref ly5, .int ab])), (ly5, .inl (lc5, 10, .inl f5)), (fa, .inr (3, [.ref cu, .ref rv, .ref bt, .int 0, .int ho, .int fe])), (cu, .inr (1, [.ref cu1, .ref cu2, .ref cu3, .ref cu4, .int 0, .int 0])), (cu1, .inl (cc1, 8, .inl uF)), (rv, .inr (5, [.int (nI w), .int (nI h), .ref q1, .ref q2, .ref q3, .ref q4, .ref q5, .ref q6])), (q1, .inl (cy1, 100, .inl (fun _ => 0))), (q3, .inl (cy3, 100, .inl (fun _ => 0)))] s.heap.size = A at hD hX ⊢
  have hA : ∀ q : Nat, s.heap.size ≤ q → A q := fun q h => by rw [← hAe]; exact Or.inr h
  have hS : va_S A s.heap s.heap [] := va_S.rf
  have hl := lv_entry ([.ref h0, .ref fa]) (n := 2) (Nat.le_of_ble_eq_true rfl)
  rw [lg_entry_eq]
  generalize (lg_sl ([.ref h0, .ref fa]) ++ List.replicate (2 - (lg_sl ([.ref h0, .ref fa])).length) Slot.unset).toArray = ls at hl ⊢
  have hl : lv_has ls 2 [(0, .ref h0), (1, .ref fa)] := hl
  have hP : va_P D vwCl [(h0, .inr (4, [.int lk, .ref ly1, .int wc, .ref ly2, .ref ly3, .ref ly4, .int oc, .ref ly5, .int ab])), (ly5, .inl (lc5, 10, .inl f5)), (fa, .inr (3, [.ref cu, .ref rv, .ref bt, .int 0, .int ho, .int fe])), (cu, .inr (1, [.ref cu1, .ref cu2, .ref cu3, .ref cu4, .int 0, .int 0])), (cu1, .inl (cc1, 8, .inl uF)), (rv, .inr (5, [.int (nI w), .int (nI h), .ref q1, .ref q2, .ref q3, .ref q4, .ref q5, .ref q6])), (q1, .inl (cy1, 100, .inl (fun _ => 0))), (q3, .inl (cy3, 100, .inl (fun _ => 0)))] s.heap := hP
  refine lv_aload_n hx hb dX4_layAll_0 rfl (lv_at hl 0 rfl) ?_
  refine lv_iconst (v := 0) hx hb dX4_layAll_1 (by decide) ?_
  refine va_put (D := D) (ci := 4) (v := .int 0) (ty := .int) (C := RX4) (T := TX4) (N := 9) hx hb hts inG_X4 tyX4 tyX4_ok nmX4 hown hK hP hD hS 0 rfl rfl 0 (by decide) (hts _ kw_2_13) (fun _ h9 => h9) rfl (by decide +kernel) rfl rfl (Nat.le_of_ble_eq_true rfl) dX4_layAll_2 (fun H locs hP hD hS => ?_)
  have hP : va_P D vwCl [(h0, .inr (4, [.int 0, .ref ly1, .int wc, .ref ly2, .ref ly3, .ref ly4, .int oc, .ref ly5, .int ab])), (ly5, .inl (lc5, 10, .inl f5)), (fa, .inr (3, [.ref cu, .ref rv, .ref bt, .int 0, .int ho, .int fe])), (cu, .inr (1, [.ref cu1, .ref cu2, .ref cu3, .ref cu4, .int 0, .int 0])), (cu1, .inl (cc1, 8, .inl uF)), (rv, .inr (5, [.int (nI w), .int (nI h), .ref q1, .ref q2, .ref q3, .ref q4, .ref q5, .ref q6])), (q1, .inl (cy1, 100, .inl (fun _ => 0))), (q3, .inl (cy3, 100, .inl (fun _ => 0)))] H := hP
  have hD : va_D A [(h0, .inr (4, [.int 0, .ref ly1, .int wc, .ref ly2, .ref ly3, .ref ly4, .int oc, .ref ly5, .int ab])), (ly5, .inl (lc5, 10, .inl f5)), (fa, .inr (3, [.ref cu, .ref rv, .ref bt, .int 0, .int ho, .int fe])), (cu, .inr (1, [.ref cu1, .ref cu2, .ref cu3, .ref cu4, .int 0, .int 0])), (cu1, .inl (cc1, 8, .inl uF)), (rv, .inr (5, [.int (nI w), .int (nI h), .ref q1, .ref q2, .ref q3, .ref q4, .ref q5, .ref q6])), (q1, .inl (cy1, 100, .inl (fun _ => 0))), (q3, .inl (cy3, 100, .inl (fun _ => 0)))] := hD
  refine lv_aload_n hx hb dX4_layAll_5 rfl (lv_at hl 0 rfl) ?_
  refine lv_aload_n hx hb dX4_layAll_6 rfl (lv_at hl 1 rfl) ?_
  refine mc_Vv (rest := []) (wr := [(ly5, .inl (lc5, 10, .inl f5)), (cu, .inr (1, [.ref cu1, .ref cu2, .ref cu3, .ref cu4, .int 0, .int 0])), (cu1, .inl (cc1, 8, .inl uF)), (rv, .inr (5, [.int (nI w), .int (nI h), .ref q1, .ref q2, .ref q3, .ref q4, .ref q5, .ref q6])), (q1, .inl (cy1, 100, .inl (fun _ => 0))), (q3, .inl (cy3, 100, .inl (fun _ => 0)))]) F hK hP hD hS hA (c_gatherW0 l D h0 ly1 ly2 ly3 ly4 ly5 fa cu rv bt 0 wc oc ab ho fe ) ⟨gk_X4_32.1, gk_X4_32.2, Nat.le_of_ble_eq_true rfl, Nat.le_of_ble_eq_true rfl⟩ [0, 2] [1, 3, 4, 5, 6, 7] [] ⟨rfl, rfl, rfl, rfl, by decide⟩ rfl xT_move (fun _ _ _ => trivial) 0 rfl rfl rfl hl.1 rfl (Nat.le_of_ble_eq_true rfl) dX4_layAll_7 ⟨Nat.le_of_ble_eq_true rfl, Nat.le_of_ble_eq_true rfl⟩ (fun _ H locs hw hK1 hP hD hS => ?_)
  have hP : va_P D vwCl [(ly5, .inl (lc5, 10, .inl f5)), (cu, .inr (1, [.ref cu1, .ref cu2, .ref cu3, .ref cu4, .int 0, .int 0])), (cu1, .inl (cc1, 8, .inl uF)), (rv, .inr (5, [.int (nI w), .int (nI h), .ref q1, .ref q2, .ref q3, .ref q4, .ref q5, .ref q6])), (q1, .inl (cy1, 100, .inl (fun _ => 0))), (q3, .inl (cy3, 100, .inl (fun _ => 0))), (h0, .inr (4, [.int 0, .ref ly1, .int 0, .ref ly2, .ref ly3, .ref ly4, .int oc, .ref ly5, .int ab])), (fa, .inr (3, [.ref cu, .ref rv, .ref bt, .int 0, .int ho, .int fe]))] H := hP
  have hD : va_D A [(ly5, .inl (lc5, 10, .inl f5)), (cu, .inr (1, [.ref cu1, .ref cu2, .ref cu3, .ref cu4, .int 0, .int 0])), (cu1, .inl (cc1, 8, .inl uF)), (rv, .inr (5, [.int (nI w), .int (nI h), .ref q1, .ref q2, .ref q3, .ref q4, .ref q5, .ref q6])), (q1, .inl (cy1, 100, .inl (fun _ => 0))), (q3, .inl (cy3, 100, .inl (fun _ => 0))), (h0, .inr (4, [.int 0, .ref ly1, .int 0, .ref ly2, .ref ly3, .ref ly4, .int oc, .ref ly5, .int ab])), (fa, .inr (3, [.ref cu, .ref rv, .ref bt, .int 0, .int ho, .int fe]))] := hD
  refine lv_aload_n hx hb dX4_layAll_10 rfl (lv_at hl 0 rfl) ?_
  refine lv_aload_n hx hb dX4_layAll_11 rfl (lv_at hl 1 rfl) ?_
  refine mc_Vv (rest := []) (wr := [(ly5, .inl (lc5, 10, .inl f5)), (cu, .inr (1, [.ref cu1, .ref cu2, .ref cu3, .ref cu4, .int 0, .int 0])), (cu1, .inl (cc1, 8, .inl uF)), (q3, .inl (cy3, 100, .inl (fun _ => 0)))]) F hK hP hD hS hA (c_gatherO0 l D h0 ly1 ly2 ly3 ly4 ly5 fa cu rv bt q1 q2 q3 q4 q5 q6 cy1 w h 0 0 ab ho fe oc (by omega) (by omega)) ⟨gk_X4_36.1, gk_X4_36.2, Nat.le_of_ble_eq_true rfl, Nat.le_of_ble_eq_true rfl⟩ [6, 7, 3, 4] [0, 1, 2, 5] [2] ⟨rfl, rfl, rfl, rfl, by decide⟩ rfl xT_move (fun _ _ _ => trivial) 6 rfl rfl rfl hl.1 rfl (Nat.le_of_ble_eq_true rfl) dX4_layAll_12 ⟨Nat.le_of_ble_eq_true rfl, Nat.le_of_ble_eq_true rfl⟩ (fun _ H locs hw hK1 hP hD hS => ?_)
  have hP : va_P D vwCl [(ly5, .inl (lc5, 10, .inl f5)), (cu, .inr (1, [.ref cu1, .ref cu2, .ref cu3, .ref cu4, .int 0, .int 0])), (cu1, .inl (cc1, 8, .inl uF)), (q3, .inl (cy3, 100, .inl (fun _ => 0))), (h0, .inr (4, [.int 0, .ref ly1, .int 0, .ref ly2, .ref ly3, .ref ly4, .int 0, .ref ly5, .int ab])), (fa, .inr (3, [.ref cu, .ref rv, .ref bt, .int 0, .int ho, .int fe])), (rv, .inr (5, [.int (nI w), .int (nI h), .ref q1, .ref q2, .ref q3, .ref q4, .ref q5, .ref q6])), (q1, .inl (cy1, 100, .inl (fun _ => 0)))] H := hP
  have hD : va_D A [(ly5, .inl (lc5, 10, .inl f5)), (cu, .inr (1, [.ref cu1, .ref cu2, .ref cu3, .ref cu4, .int 0, .int 0])), (cu1, .inl (cc1, 8, .inl uF)), (q3, .inl (cy3, 100, .inl (fun _ => 0))), (h0, .inr (4, [.int 0, .ref ly1, .int 0, .ref ly2, .ref ly3, .ref ly4, .int 0, .ref ly5, .int ab])), (fa, .inr (3, [.ref cu, .ref rv, .ref bt, .int 0, .int ho, .int fe])), (rv, .inr (5, [.int (nI w), .int (nI h), .ref q1, .ref q2, .ref q3, .ref q4, .ref q5, .ref q6])), (q1, .inl (cy1, 100, .inl (fun _ => 0)))] := hD
  refine lv_aload_n hx hb dX4_layAll_15 rfl (lv_at hl 0 rfl) ?_
  refine lv_aload_n hx hb dX4_layAll_16 rfl (lv_at hl 1 rfl) ?_
  refine va_get (D := D) (ci := 3) (v := .ref rv) (C := RX3) (T := TX3) (N := 6) hx hb hts inG_X3 hown hK hP 5 rfl rfl 1 (by decide) (hts _ kw_1_220) (fun _ h9 => h9) rfl dX4_layAll_17 ?_
  refine lv_aload_n hx hb dX4_layAll_20 rfl (lv_at hl 1 rfl) ?_
  refine va_get (D := D) (ci := 3) (v := .ref cu) (C := RX3) (T := TX3) (N := 6) hx hb hts inG_X3 hown hK hP 5 rfl rfl 0 (by decide) (hts _ kw_1_217) (fun _ h9 => h9) rfl dX4_layAll_21 ?_
  refine mc_Vi (rest := [.ref rv, .ref h0]) (wr := [(ly5, .inl (lc5, 10, .inl f5)), (q3, .inl (cy3, 100, .inl (fun _ => 0))), (h0, .inr (4, [.int 0, .ref ly1, .int 0, .ref ly2, .ref ly3, .ref ly4, .int 0, .ref ly5, .int ab])), (fa, .inr (3, [.ref cu, .ref rv, .ref bt, .int 0, .int ho, .int fe])), (rv, .inr (5, [.int (nI w), .int (nI h), .ref q1, .ref q2, .ref q3, .ref q4, .ref q5, .ref q6])), (q1, .inl (cy1, 100, .inl (fun _ => 0)))]) F hK hP hD hS hA (c_cu_bear l D cu cu1 cu2 cu3 cu4 cc1 0 0 ) ⟨gk_X4_49.1, gk_X4_49.2, Nat.le_of_ble_eq_true rfl, Nat.le_of_ble_eq_true rfl⟩ [1, 2] [0, 3, 4, 5, 6, 7] [1] ⟨rfl, rfl, rfl, rfl, by decide⟩ rfl xT_move (fun _ _ _ => trivial) 1 rfl rfl rfl hl.1 rfl (Nat.le_of_ble_eq_true rfl) dX4_layAll_24 ⟨Nat.le_of_ble_eq_true rfl, Nat.le_of_ble_eq_true rfl⟩ (fun r_5 _ H locs hw hK1 hP hD hS => ?_)
  have hP : va_P D vwCl [(ly5, .inl (lc5, 10, .inl f5)), (q3, .inl (cy3, 100, .inl (fun _ => 0))), (h0, .inr (4, [.int 0, .ref ly1, .int 0, .ref ly2, .ref ly3, .ref ly4, .int 0, .ref ly5, .int ab])), (fa, .inr (3, [.ref cu, .ref rv, .ref bt, .int 0, .int ho, .int fe])), (rv, .inr (5, [.int (nI w), .int (nI h), .ref q1, .ref q2, .ref q3, .ref q4, .ref q5, .ref q6])), (q1, .inl (cy1, 100, .inl (fun _ => 0))), (cu, .inr (1, [.ref cu1, .ref cu2, .ref cu3, .ref cu4, .int 0, .int 0])), (cu1, .inl (cc1, 8, .inl uF))] H := hP
  have hD : va_D A [(ly5, .inl (lc5, 10, .inl f5)), (q3, .inl (cy3, 100, .inl (fun _ => 0))), (h0, .inr (4, [.int 0, .ref ly1, .int 0, .ref ly2, .ref ly3, .ref ly4, .int 0, .ref ly5, .int ab])), (fa, .inr (3, [.ref cu, .ref rv, .ref bt, .int 0, .int ho, .int fe])), (rv, .inr (5, [.int (nI w), .int (nI h), .ref q1, .ref q2, .ref q3, .ref q4, .ref q5, .ref q6])), (q1, .inl (cy1, 100, .inl (fun _ => 0))), (cu, .inr (1, [.ref cu1, .ref cu2, .ref cu3, .ref cu4, .int 0, .int 0])), (cu1, .inl (cc1, 8, .inl uF))] := hD
  have hw_6 : r_5 = 100 := hw
  obtain rfl : r_5 = 100 := hw_6
  refine mc_Vi (rest := [.ref h0]) (wr := [(ly5, .inl (lc5, 10, .inl f5)), (h0, .inr (4, [.int 0, .ref ly1, .int 0, .ref ly2, .ref ly3, .ref ly4, .int 0, .ref ly5, .int ab])), (fa, .inr (3, [.ref cu, .ref rv, .ref bt, .int 0, .int ho, .int fe])), (cu, .inr (1, [.ref cu1, .ref cu2, .ref cu3, .ref cu4, .int 0, .int 0])), (cu1, .inl (cc1, 8, .inl uF))]) F hK hP hD hS hA (c_bearsAll0 l D rv q1 q2 q3 q4 q5 q6 cy1 cy3 w h (by omega) (by omega)) ⟨gk_X4_55.1, gk_X4_55.2, Nat.le_of_ble_eq_true rfl, Nat.le_of_ble_eq_true rfl⟩ [4, 5, 1] [0, 2, 3, 6, 7] [2, 3] ⟨rfl, rfl, rfl, rfl, by decide⟩ rfl xT_move (fun _ _ _ => trivial) 4 rfl rfl rfl hl.1 rfl (Nat.le_of_ble_eq_true rfl) dX4_layAll_27 ⟨Nat.le_of_ble_eq_true rfl, Nat.le_of_ble_eq_true rfl⟩ (fun r_7 _ H locs hw hK1 hP hD hS => ?_)
  have hP : va_P D vwCl [(ly5, .inl (lc5, 10, .inl f5)), (h0, .inr (4, [.int 0, .ref ly1, .int 0, .ref ly2, .ref ly3, .ref ly4, .int 0, .ref ly5, .int ab])), (fa, .inr (3, [.ref cu, .ref rv, .ref bt, .int 0, .int ho, .int fe])), (cu, .inr (1, [.ref cu1, .ref cu2, .ref cu3, .ref cu4, .int 0, .int 0])), (cu1, .inl (cc1, 8, .inl uF)), (rv, .inr (5, [.int (nI w), .int (nI h), .ref q1, .ref q2, .ref q3, .ref q4, .ref q5, .ref q6])), (q1, .inl (cy1, 100, .inl (fun _ => 0))), (q3, .inl (cy3, 100, .inl (fun _ => 0)))] H := hP
  have hD : va_D A [(ly5, .inl (lc5, 10, .inl f5)), (h0, .inr (4, [.int 0, .ref ly1, .int 0, .ref ly2, .ref ly3, .ref ly4, .int 0, .ref ly5, .int ab])), (fa, .inr (3, [.ref cu, .ref rv, .ref bt, .int 0, .int ho, .int fe])), (cu, .inr (1, [.ref cu1, .ref cu2, .ref cu3, .ref cu4, .int 0, .int 0])), (cu1, .inl (cc1, 8, .inl uF)), (rv, .inr (5, [.int (nI w), .int (nI h), .ref q1, .ref q2, .ref q3, .ref q4, .ref q5, .ref q6])), (q1, .inl (cy1, 100, .inl (fun _ => 0))), (q3, .inl (cy3, 100, .inl (fun _ => 0)))] := hD
  have hw_8 : r_7 = 1 := hw
  obtain rfl : r_7 = 1 := hw_8
  refine va_put (D := D) (ci := 4) (v := .int 1) (ty := .boolean) (C := RX4) (T := TX4) (N := 9) hx hb hts inG_X4 tyX4 tyX4_ok nmX4 hown hK hP hD hS 1 rfl rfl 8 (by decide) (hts _ kw_2_22) (fun _ h9 => h9) rfl (by decide +kernel) rfl rfl (Nat.le_of_ble_eq_true rfl) dX4_layAll_30 (fun H locs hP hD hS => ?_)
  have hP : va_P D vwCl [(ly5, .inl (lc5, 10, .inl f5)), (h0, .inr (4, [.int 0, .ref ly1, .int 0, .ref ly2, .ref ly3, .ref ly4, .int 0, .ref ly5, .int 1])), (fa, .inr (3, [.ref cu, .ref rv, .ref bt, .int 0, .int ho, .int fe])), (cu, .inr (1, [.ref cu1, .ref cu2, .ref cu3, .ref cu4, .int 0, .int 0])), (cu1, .inl (cc1, 8, .inl uF)), (rv, .inr (5, [.int (nI w), .int (nI h), .ref q1, .ref q2, .ref q3, .ref q4, .ref q5, .ref q6])), (q1, .inl (cy1, 100, .inl (fun _ => 0))), (q3, .inl (cy3, 100, .inl (fun _ => 0)))] H := hP
  have hD : va_D A [(ly5, .inl (lc5, 10, .inl f5)), (h0, .inr (4, [.int 0, .ref ly1, .int 0, .ref ly2, .ref ly3, .ref ly4, .int 0, .ref ly5, .int 1])), (fa, .inr (3, [.ref cu, .ref rv, .ref bt, .int 0, .int ho, .int fe])), (cu, .inr (1, [.ref cu1, .ref cu2, .ref cu3, .ref cu4, .int 0, .int 0])), (cu1, .inl (cc1, 8, .inl uF)), (rv, .inr (5, [.int (nI w), .int (nI h), .ref q1, .ref q2, .ref q3, .ref q4, .ref q5, .ref q6])), (q1, .inl (cy1, 100, .inl (fun _ => 0))), (q3, .inl (cy3, 100, .inl (fun _ => 0)))] := hD
  refine lv_aload_n hx hb dX4_layAll_33 rfl (lv_at hl 0 rfl) ?_
  refine lv_aload_n hx hb dX4_layAll_34 rfl (lv_at hl 1 rfl) ?_
  refine mc_Vi (rest := []) (wr := [(fa, .inr (3, [.ref cu, .ref rv, .ref bt, .int 0, .int ho, .int fe])), (cu, .inr (1, [.ref cu1, .ref cu2, .ref cu3, .ref cu4, .int 0, .int 0])), (cu1, .inl (cc1, 8, .inl uF)), (rv, .inr (5, [.int (nI w), .int (nI h), .ref q1, .ref q2, .ref q3, .ref q4, .ref q5, .ref q6])), (q1, .inl (cy1, 100, .inl (fun _ => 0))), (q3, .inl (cy3, 100, .inl (fun _ => 0)))]) F hK hP hD hS hA (c_findRow0 l D h0 fa ly1 ly2 ly3 ly4 ly5 lc5 f5 0 0 1 ) ⟨gk_X4_65.1, gk_X4_65.2, Nat.le_of_ble_eq_true rfl, Nat.le_of_ble_eq_true rfl⟩ [1, 0] [2, 3, 4, 5, 6, 7] [0] ⟨rfl, rfl, rfl, rfl, by decide⟩ rfl xT_move (fun _ _ _ => trivial) 1 rfl rfl rfl hl.1 rfl (Nat.le_of_ble_eq_true rfl) dX4_layAll_35 ⟨Nat.le_of_ble_eq_true rfl, Nat.le_of_ble_eq_true rfl⟩ (fun r_9 _ H locs hw hK1 hP hD hS => ?_)
  have hP : va_P D vwCl [(fa, .inr (3, [.ref cu, .ref rv, .ref bt, .int 0, .int ho, .int fe])), (cu, .inr (1, [.ref cu1, .ref cu2, .ref cu3, .ref cu4, .int 0, .int 0])), (cu1, .inl (cc1, 8, .inl uF)), (rv, .inr (5, [.int (nI w), .int (nI h), .ref q1, .ref q2, .ref q3, .ref q4, .ref q5, .ref q6])), (q1, .inl (cy1, 100, .inl (fun _ => 0))), (q3, .inl (cy3, 100, .inl (fun _ => 0))), (h0, .inr (4, [.int 0, .ref ly1, .int 0, .ref ly2, .ref ly3, .ref ly4, .int 0, .ref ly5, .int 1]))] H := hP
  have hD : va_D A [(fa, .inr (3, [.ref cu, .ref rv, .ref bt, .int 0, .int ho, .int fe])), (cu, .inr (1, [.ref cu1, .ref cu2, .ref cu3, .ref cu4, .int 0, .int 0])), (cu1, .inl (cc1, 8, .inl uF)), (rv, .inr (5, [.int (nI w), .int (nI h), .ref q1, .ref q2, .ref q3, .ref q4, .ref q5, .ref q6])), (q1, .inl (cy1, 100, .inl (fun _ => 0))), (q3, .inl (cy3, 100, .inl (fun _ => 0))), (h0, .inr (4, [.int 0, .ref ly1, .int 0, .ref ly2, .ref ly3, .ref ly4, .int 0, .ref ly5, .int 1]))] := hD
  have hw_10 : r_9 = 1 := hw
  obtain rfl : r_9 = 1 := hw_10
  refine lv_if_ne (tgt := 63) hx hb dX4_layAll_38 (by decide) (fun c_11 => ?_) (fun c_11 => absurd c_11 (by decide))
  refine lv_aload_n hx hb dX4_layAll_63 rfl (lv_at hl 0 rfl) ?_
  refine lv_aload_n hx hb dX4_layAll_64 rfl (lv_at hl 1 rfl) ?_
  refine mc_Vv (rest := []) (wr := [(fa, .inr (3, [.ref cu, .ref rv, .ref bt, .int 0, .int ho, .int fe])), (cu, .inr (1, [.ref cu1, .ref cu2, .ref cu3, .ref cu4, .int 0, .int 0])), (cu1, .inl (cc1, 8, .inl uF)), (rv, .inr (5, [.int (nI w), .int (nI h), .ref q1, .ref q2, .ref q3, .ref q4, .ref q5, .ref q6])), (q1, .inl (cy1, 100, .inl (fun _ => 0))), (q3, .inl (cy3, 100, .inl (fun _ => 0)))]) F hK hP hD hS hA (c_takeFees0 l D h0 fa ly1 ly2 ly3 ly4 ly5 0 0 1 ) ⟨gk_X4_72.1, gk_X4_72.2, Nat.le_of_ble_eq_true rfl, Nat.le_of_ble_eq_true rfl⟩ [6] [0, 1, 2, 3, 4, 5] [] ⟨rfl, rfl, rfl, rfl, by decide⟩ rfl xT_move (fun _ _ _ => trivial) 6 rfl rfl rfl hl.1 rfl (Nat.le_of_ble_eq_true rfl) dX4_layAll_65 ⟨Nat.le_of_ble_eq_true rfl, Nat.le_of_ble_eq_true rfl⟩ (fun _ H locs hw hK1 hP hD hS => ?_)
  have hP : va_P D vwCl [(fa, .inr (3, [.ref cu, .ref rv, .ref bt, .int 0, .int ho, .int fe])), (cu, .inr (1, [.ref cu1, .ref cu2, .ref cu3, .ref cu4, .int 0, .int 0])), (cu1, .inl (cc1, 8, .inl uF)), (rv, .inr (5, [.int (nI w), .int (nI h), .ref q1, .ref q2, .ref q3, .ref q4, .ref q5, .ref q6])), (q1, .inl (cy1, 100, .inl (fun _ => 0))), (q3, .inl (cy3, 100, .inl (fun _ => 0))), (h0, .inr (4, [.int 0, .ref ly1, .int 0, .ref ly2, .ref ly3, .ref ly4, .int 0, .ref ly5, .int 1]))] H := hP
  have hD : va_D A [(fa, .inr (3, [.ref cu, .ref rv, .ref bt, .int 0, .int ho, .int fe])), (cu, .inr (1, [.ref cu1, .ref cu2, .ref cu3, .ref cu4, .int 0, .int 0])), (cu1, .inl (cc1, 8, .inl uF)), (rv, .inr (5, [.int (nI w), .int (nI h), .ref q1, .ref q2, .ref q3, .ref q4, .ref q5, .ref q6])), (q1, .inl (cy1, 100, .inl (fun _ => 0))), (q3, .inl (cy3, 100, .inl (fun _ => 0))), (h0, .inr (4, [.int 0, .ref ly1, .int 0, .ref ly2, .ref ly3, .ref ly4, .int 0, .ref ly5, .int 1]))] := hD
  refine lv_aload_n hx hb dX4_layAll_68 rfl (lv_at hl 0 rfl) ?_
  refine va_get (D := D) (ci := 4) (v := .int 0) (C := RX4) (T := TX4) (N := 9) hx hb hts inG_X4 hown hK hP 6 rfl rfl 2 (by decide) (hts _ kw_2_16) (fun _ h9 => h9) rfl dX4_layAll_69 ?_
  have hP9 := hP.sub (ws' := []) [] rfl
  have hD9 := hD.sub (ws' := []) [] (by decide) rfl
  have hK9 := hK.sub (tys' := []) [] rfl
  refine W.widen (k := 0) (n := 0) (by decide) (by decide) ?_
  exact W.iret (v := 0) hx hb hr (fun t ht hW => ⟨⟨0, (), rfl, rfl, by rw [ht]; exact hP9, va_K.moved hW.alike hK9, hD9⟩, hS.F ht⟩) hS.2.2 dX4_layAll_72
theorem dX9_lay_0 : decode cX9_lay 0 = .ok (.aload_n 0, 1) := by decide +kernel
theorem dX9_lay_1 : decode cX9_lay 1 = .ok (.getfield 40, 3) := by decide +kernel
theorem dX9_lay_4 : decode cX9_lay 4 = .ok (.aload_n 0, 1) := by decide +kernel
theorem dX9_lay_5 : decode cX9_lay 5 = .ok (.getfield 33, 3) := by decide +kernel
theorem kw_3_190 : Cond.methodLink RX9 131 yX4_layAll ∈ gw := gw_t3 (List.mem_of_getElem? (i := 190) (by decide +kernel)) (by decide +kernel)
theorem kw_3_191 : Cond.instanceMethod yX4_layAll ∈ gw := gw_t3 (List.mem_of_getElem? (i := 191) (by decide +kernel)) (by decide +kernel)
theorem kw_3_192 : Cond.selects RX4 yX4_layAll yX4_layAll ∈ gw := gw_t3 (List.mem_of_getElem? (i := 192) (by decide +kernel)) (by decide +kernel)
theorem kw_3_193 : Cond.code yX4_layAll cX4_layAll 2 (some .int) ∈ gw := gw_t3 (List.mem_of_getElem? (i := 193) (by decide +kernel)) (by decide +kernel)
theorem gk_X9_131 : GoodIn gw (wsV RX9 131 RX4 yX4_layAll (.code yX4_layAll cX4_layAll 2 (some .int) :: gw)) ∧ (yX4_layAll.cls = RX4 ∧ yX4_layAll.cls ≠ "java/lang/invoke/MethodHandle" ∧ yX4_layAll.cls ≠ "java/lang/invoke/VarHandle" ∧ (parseMethodDescriptor yX4_layAll.desc).map (fun d => d.parameters.length) = some 1) := ⟨gi_V kw_3_190 kw_3_191 kw_3_192 kw_1_9 kw_3_193, by decide +kernel⟩
theorem dX9_lay_8 : decode cX9_lay 8 = .ok (.invokevirtual 131, 3) := by decide +kernel
theorem dX9_lay_11 : decode cX9_lay 11 = .ok (.ireturn, 1) := by decide +kernel
set_option maxHeartbeats 4000000 in
set_option maxRecDepth 100000 in
theorem c_lay (l : Launch) (D : va_G) (h0 : Nat) (tp : Nat) (rd : Nat) (dr : Nat) (fa : Nat) (ly : Nat) (wy : Nat) (cu : Nat) (rv : Nat) (bt : Nat) (cu1 : Nat) (cu2 : Nat) (cu3 : Nat) (cu4 : Nat) (rv1 : Nat) (rv2 : Nat) (rv3 : Nat) (rv4 : Nat) (rv5 : Nat) (rv6 : Nat) (ly1 : Nat) (ly2 : Nat) (ly3 : Nat) (ly4 : Nat) (ly5 : Nat) (cc1 : ClassId) (rc1 : ClassId) (rc3 : ClassId) (lc5 : ClassId) : cI l yX9_lay (.code yX9_lay cX9_lay 1 (some .int)) ({ frames := 6, cells := 0, slots := 0, locals := 176 }) D [(cc1, .int), (rc1, .int), (rc3, .int), (lc5, .int)] [(h0, .inr (8, [.ref tp, .ref rd, .ref dr, .ref fa, .ref ly, .ref wy])), (fa, .inr (3, [.ref cu, .ref rv, .ref bt, .int 0, .int 0, .int 0])), (cu, .inr (1, [.ref cu1, .ref cu2, .ref cu3, .ref cu4, .int 0, .int 0])), (cu1, .inl (cc1, 8, .inl uF)), (rv, .inr (5, [.int 5, .int 5, .ref rv1, .ref rv2, .ref rv3, .ref rv4, .ref rv5, .ref rv6])), (rv1, .inl (rc1, 100, .inl (fun _ => 0))), (rv3, .inl (rc3, 100, .inl (fun _ => 0))), (ly, .inr (4, [.int 0, .ref ly1, .int 0, .ref ly2, .ref ly3, .ref ly4, .int 0, .ref ly5, .int 0])), (ly5, .inl (lc5, 10, .inl (fun _ => 0)))] xT [.ref h0] (S := Unit) (fun r _ => r = 0) (fun _ => []) (fun _ => []) := by
  intro sz
  refine Met.ofW (cc := cX9_lay) (maxL := 1) (ret := (some .int)) (by decide) rfl ?_
  intro p e s m args below meth c s₁ B hml hv
  obtain ⟨rfl, hsz, hP, hK, hD0, hX⟩ := hv
  have hx := B.exec
  have hb := B.bytes
  have hr := B.returns
  have hts0 := atoms_spec (ws := .code yX9_lay cX9_lay 1 (some .int) :: gw) B.pre
  have hts := fun (w : Cond) (h : w ∈ gw) => hts0 w (List.mem_cons_of_mem _ h)
  have hown : s.vm.findClass RX9 = some m.cls := findClass_of_methodNamed B.named
  have hlocks := B.notSynchronized
  have F : mFix p s m _ c cX9_lay 1 RX9 := ⟨hx, hb, hml, hown, hts⟩
  subst hsz
  have hD := hD0.self (sz := s.heap.size)
  generalize hAe : va_A [(h0, .inr (8, [.ref tp, .ref rd, .ref dr, .ref fa, .ref ly, .ref wy])), (fa, .inr (3, [.ref cu, .ref rv, .ref bt, .int 0, .int 0, .int 0])), (cu, .inr (1, [.ref cu1, .ref cu2, .ref cu3, .ref cu4, .int 0, .int 0])), (cu1, .inl (cc1, 8, .inl uF)), (rv, .inr (5, [.int 5, .int 5, .ref rv1, .ref rv2, .ref rv3, .ref rv4, .ref rv5, .ref rv6])), (rv1, .inl (rc1, 100, .inl (fun _ => 0))), (rv3, .inl (rc3, 100, .inl (fun _ => 0))), (ly, .inr (4, [.int 0, .ref ly1, .int 0, .ref ly2, .ref ly3, .ref ly4, .int 0, .ref ly5, .int 0])), (ly5, .inl (lc5, 10, .inl (fun _ => 0)))] s.heap.size = A at hD hX ⊢
  have hA : ∀ q : Nat, s.heap.size ≤ q → A q := fun q h => by rw [← hAe]; exact Or.inr h
  have hS : va_S A s.heap s.heap [] := va_S.rf
  have hl := lv_entry ([.ref h0]) (n := 1) (Nat.le_of_ble_eq_true rfl)
  rw [lg_entry_eq]
  generalize (lg_sl ([.ref h0]) ++ List.replicate (1 - (lg_sl ([.ref h0])).length) Slot.unset).toArray = ls at hl ⊢
  have hl : lv_has ls 1 [(0, .ref h0)] := hl
  have hP : va_P D vwCl [(h0, .inr (8, [.ref tp, .ref rd, .ref dr, .ref fa, .ref ly, .ref wy])), (fa, .inr (3, [.ref cu, .ref rv, .ref bt, .int 0, .int 0, .int 0])), (cu, .inr (1, [.ref cu1, .ref cu2, .ref cu3, .ref cu4, .int 0, .int 0])), (cu1, .inl (cc1, 8, .inl uF)), (rv, .inr (5, [.int 5, .int 5, .ref rv1, .ref rv2, .ref rv3, .ref rv4, .ref rv5, .ref rv6])), (rv1, .inl (rc1, 100, .inl (fun _ => 0))), (rv3, .inl (rc3, 100, .inl (fun _ => 0))), (ly, .inr (4, [.int 0, .ref ly1, .int 0, .ref ly2, .ref ly3, .ref ly4, .int 0, .ref ly5, .int 0])), (ly5, .inl (lc5, 10, .inl (fun _ => 0)))] s.heap := hP
  refine lv_aload_n hx hb dX9_lay_0 rfl (lv_at hl 0 rfl) ?_
  refine va_get (D := D) (ci := 8) (v := .ref ly) (C := RX9) (T := TX9) (N := 6) hx hb hts inG_X9 hown hK hP 0 rfl rfl 4 (by decide) (hts _ kw_2_71) (fun _ h9 => h9) rfl dX9_lay_1 ?_
  refine lv_aload_n hx hb dX9_lay_4 rfl (lv_at hl 0 rfl) ?_
  refine va_get (D := D) (ci := 8) (v := .ref fa) (C := RX9) (T := TX9) (N := 6) hx hb hts inG_X9 hown hK hP 0 rfl rfl 3 (by decide) (hts _ kw_2_70) (fun _ h9 => h9) rfl dX9_lay_5 ?_
  refine mc_Vi (rest := []) (wr := [(h0, .inr (8, [.ref tp, .ref rd, .ref dr, .ref fa, .ref ly, .ref wy]))]) F hK hP hD hS hA (c_layAll0 l D ly ly1 ly2 ly3 ly4 ly5 fa cu rv bt cu1 cu2 cu3 cu4 rv1 rv2 rv3 rv4 rv5 rv6 lc5 cc1 rc1 rc3 (fun _ => 0) 0 0 0 0 0 0 5 5 (by omega) (by omega)) ⟨gk_X9_131.1, gk_X9_131.2, Nat.le_of_ble_eq_true rfl, Nat.le_of_ble_eq_true rfl⟩ [7, 8, 1, 2, 3, 4, 5, 6] [0] [3, 0, 1, 2] ⟨rfl, rfl, rfl, rfl, by decide⟩ rfl xT_move (fun _ _ _ => trivial) 7 rfl rfl rfl hl.1 rfl (Nat.le_of_ble_eq_true rfl) dX9_lay_8 ⟨Nat.le_of_ble_eq_true rfl, Nat.le_of_ble_eq_true rfl⟩ (fun r_1 _ H locs hw hK1 hP hD hS => ?_)
  have hP : va_P D vwCl [(h0, .inr (8, [.ref tp, .ref rd, .ref dr, .ref fa, .ref ly, .ref wy]))] H := hP
  have hD : va_D A [(h0, .inr (8, [.ref tp, .ref rd, .ref dr, .ref fa, .ref ly, .ref wy]))] := hD
  have hw_2 : r_1 = 0 := hw
  obtain rfl : r_1 = 0 := hw_2
  have hP9 := hP.sub (ws' := []) [] rfl
  have hD9 := hD.sub (ws' := []) [] (by decide) rfl
  have hK9 := hK.sub (tys' := []) [] rfl
  refine W.widen (k := 0) (n := 0) (by decide) (by decide) ?_
  exact W.iret (v := 0) hx hb hr (fun t ht hW => ⟨⟨0, (), rfl, rfl, by rw [ht]; exact hP9, va_K.moved hW.alike hK9, hD9⟩, hS.F ht⟩) hS.2.2 dX9_lay_11
