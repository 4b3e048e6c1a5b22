theorem dX3_fireAt_0 : decode cX3_fireAt 0 = .ok (.aload_n 0, 1) := by decide +kernel
theorem dX3_fireAt_1 : decode cX3_fireAt 1 = .ok (.aload_n 0, 1) := by decide +kernel
theorem dX3_fireAt_2 : decode cX3_fireAt 2 = .ok (.getfield 21, 3) := by decide +kernel
theorem dX3_fireAt_5 : decode cX3_fireAt 5 = .ok (.iload_n 1, 1) := by decide +kernel
theorem dX3_fireAt_6 : decode cX3_fireAt 6 = .ok (.iload_n 2, 1) := by decide +kernel
theorem kw_3_146 : Cond.methodLink RX3 169 yX6_guestAt ∈ gw := gw_t3 (List.mem_of_getElem? (i := 146) (by decide +kernel)) (by decide +kernel)
theorem kw_3_147 : Cond.instanceMethod yX6_guestAt ∈ gw := gw_t3 (List.mem_of_getElem? (i := 147) (by decide +kernel)) (by decide +kernel)
theorem kw_3_148 : Cond.selects RX6 yX6_guestAt yX6_guestAt ∈ gw := gw_t3 (List.mem_of_getElem? (i := 148) (by decide +kernel)) (by decide +kernel)
theorem kw_3_149 : Cond.code yX6_guestAt cX6_guestAt 3 (some .int) ∈ gw := gw_t3 (List.mem_of_getElem? (i := 149) (by decide +kernel)) (by decide +kernel)
theorem gk_X3_169 : GoodIn gw (wsV RX3 169 RX6 yX6_guestAt (.code yX6_guestAt cX6_guestAt 3 (some .int) :: gw)) ∧ (yX6_guestAt.cls = RX6 ∧ yX6_guestAt.cls ≠ "java/lang/invoke/MethodHandle" ∧ yX6_guestAt.cls ≠ "java/lang/invoke/VarHandle" ∧ (parseMethodDescriptor yX6_guestAt.desc).map (fun d => d.parameters.length) = some 2) := ⟨gi_V kw_3_146 kw_3_147 kw_3_148 kw_1_7 kw_3_149, by decide +kernel⟩
theorem dX3_fireAt_7 : decode cX3_fireAt 7 = .ok (.invokevirtual 169, 3) := by decide +kernel
theorem kw_3_150 : Cond.methodLink RX3 172 yX3_boothNumbered ∈ gw := gw_t3 (List.mem_of_getElem? (i := 150) (by decide +kernel)) (by decide +kernel)
theorem kw_3_32 : Cond.instanceMethod yX3_boothNumbered ∈ gw := gw_t3 (List.mem_of_getElem? (i := 32) (by decide +kernel)) (by decide +kernel)
theorem kw_3_33 : Cond.selects RX3 yX3_boothNumbered yX3_boothNumbered ∈ gw := gw_t3 (List.mem_of_getElem? (i := 33) (by decide +kernel)) (by decide +kernel)
theorem kw_3_34 : Cond.code yX3_boothNumbered cX3_boothNumbered 2 (some (.object "IceFair$Booth")) ∈ gw := gw_t3 (List.mem_of_getElem? (i := 34) (by decide +kernel)) (by decide +kernel)
theorem gk_X3_172 : GoodIn gw (wsV RX3 172 RX3 yX3_boothNumbered (.code yX3_boothNumbered cX3_boothNumbered 2 (some (.object "IceFair$Booth")) :: gw)) ∧ (yX3_boothNumbered.cls = RX3 ∧ yX3_boothNumbered.cls ≠ "java/lang/invoke/MethodHandle" ∧ yX3_boothNumbered.cls ≠ "java/lang/invoke/VarHandle" ∧ (parseMethodDescriptor yX3_boothNumbered.desc).map (fun d => d.parameters.length) = some 1) := ⟨gi_V kw_3_150 kw_3_32 kw_3_33 kw_1_6 kw_3_34, by decide +kernel⟩
theorem dX3_fireAt_10 : decode cX3_fireAt 10 = .ok (.invokevirtual 172, 3) := by decide +kernel
theorem dX3_fireAt_13 : decode cX3_fireAt 13 = .ok (.astore_n 3, 1) := by decide +kernel
theorem dX3_fireAt_14 : decode cX3_fireAt 14 = .ok (.aload_n 3, 1) := by decide +kernel
theorem dX3_fireAt_15 : decode cX3_fireAt 15 = .ok (.ifnull 14, 3) := by decide +kernel
theorem dX3_fireAt_29 : decode cX3_fireAt 29 = .ok (.iconst 0, 1) := by decide +kernel
theorem dX3_fireAt_30 : decode cX3_fireAt 30 = .ok (.ireturn, 1) := by decide +kernel
theorem dX3_fireAt_18 : decode cX3_fireAt 18 = .ok (.aload_n 3, 1) := by decide +kernel
theorem dX3_fireAt_19 : decode cX3_fireAt 19 = .ok (.getfield 52, 3) := by decide +kernel
theorem dX3_fireAt_22 : decode cX3_fireAt 22 = .ok (.ifCond .eq 7, 3) := by decide +kernel
theorem dX3_fireAt_25 : decode cX3_fireAt 25 = .ok (.iconst 1, 1) := by decide +kernel
theorem dX3_fireAt_26 : decode cX3_fireAt 26 = .ok (.goto 4, 3) := by decide +kernel
set_option maxHeartbeats 4000000 in
set_option maxRecDepth 100000 in
theorem c_fireAt (l : Launch) (D : va_G) (bo : Nat → Nat) (B1 : Nat → Int32) (B2 : Nat → Int32) (B3 : Nat → Int32) (B4 : Nat → Int32) (B5 : Nat → Int32) (B6 : Nat → Int32) (B7 : Nat → Int32) (h0 : Nat) (cu : Nat) (rv : Nat) (bt : Nat) (bc9 : ClassId) (bc : Nat) (ho : Int32) (fe : Int32) (q1 : Nat) (q2 : Nat) (q3 : Nat) (q4 : Nat) (q5 : Nat) (q6 : Nat) (cy4 : ClassId) (f4 : Nat → Int32) (w : Nat) (h : Nat) (x : Int32) (y : Int32) (hbc : bc ≤ 10) (h3 : w ≤ 10) (h4 : h ≤ 10) : cI l yX3_fireAt (.code yX3_fireAt cX3_fireAt 4 (some .int)) ({ frames := 2, cells := 0, slots := 0, locals := 44 }) D [(bc9, .object RX0), (cy4, .int)] (bL bo B1 B2 B3 B4 B5 B6 B7 ++ ([(h0, .inr (3, [.ref cu, .ref rv, .ref bt, .int (nI bc), .int ho, .int fe])), (bt, .inl (bc9, 10, .inr (.inr (.inr (.inr (fun j => some (bo j))))))), (rv, .inr (5, [.int (nI w), .int (nI h), .ref q1, .ref q2, .ref q3, .ref q4, .ref q5, .ref q6])), (q4, .inl (cy4, 100, .inl f4))] : va_W)) xT [.ref h0, .int x, .int y] (S := Unit) (fun r _ => r = r) (fun _ => []) (fun _ => (bL bo B1 B2 B3 B4 B5 B6 B7 ++ ([(h0, .inr (3, [.ref cu, .ref rv, .ref bt, .int (nI bc), .int ho, .int fe])), (bt, .inl (bc9, 10, .inr (.inr (.inr (.inr (fun j => some (bo j))))))), (rv, .inr (5, [.int (nI w), .int (nI h), .ref q1, .ref q2, .ref q3, .ref q4, .ref q5, .ref q6])), (q4, .inl (cy4, 100, .inl f4))] : va_W))) := by
  intro sz
  refine Met.ofW (cc := cX3_fireAt) (maxL := 4) (ret := (some .int)) (by decide) rfl ?_
  intro p e s m args below meth c s₁ B hml hv
  obtain ⟨rfl, hsz, hP, hK, hD0, hX⟩ := hv
  have hx := B.exec
  have hb := B.bytes
  have hr := B.returns
  have hts0 := atoms_spec (ws := .code yX3_fireAt cX3_fireAt 4 (some .int) :: gw) B.pre
  have hts := fun (w : Cond) (h : w ∈ gw) => hts0 w (List.mem_cons_of_mem _ h)
  have hown : s.vm.findClass RX3 = some m.cls := findClass_of_methodNamed B.named
  have hlocks := B.notSynchronized
  have F : mFix p s m _ c cX3_fireAt 4 RX3 := ⟨hx, hb, hml, hown, hts⟩
  subst hsz
  have hD := hD0.self (sz := s.heap.size)
  generalize hAe : va_A (bL bo B1 B2 B3 B4 B5 B6 B7 ++ ([(h0, .inr (3, [.ref cu, .ref rv, .ref bt, .int (nI bc), .int ho, .int fe])), (bt, .inl (bc9, 10, .inr (.inr (.inr (.inr (fun j => some (bo j))))))), (rv, .inr (5, [.int (nI w), .int (nI h), .ref q1, .ref q2, .ref q3, .ref q4, .ref q5, .ref q6])), (q4, .inl (cy4, 100, .inl f4))] : va_W)) s.heap.size = A at hD hX ⊢
  have hA : ∀ q : Nat, s.heap.size ≤ q → A q := fun q h => by rw [← hAe]; exact Or.inr h
  have hS : va_S A s.heap s.heap [] := va_S.rf
  have hl := lv_entry ([.ref h0, .int x, .int y]) (n := 4) (Nat.le_of_ble_eq_true rfl)
  rw [lg_entry_eq]
  generalize (lg_sl ([.ref h0, .int x, .int y]) ++ List.replicate (4 - (lg_sl ([.ref h0, .int x, .int y])).length) Slot.unset).toArray = ls at hl ⊢
  have hl : lv_has ls 4 [(0, .ref h0), (1, .int x), (2, .int y)] := hl
  have hP : va_P D vwCl (bL bo B1 B2 B3 B4 B5 B6 B7 ++ ([(h0, .inr (3, [.ref cu, .ref rv, .ref bt, .int (nI bc), .int ho, .int fe])), (bt, .inl (bc9, 10, .inr (.inr (.inr (.inr (fun j => some (bo j))))))), (rv, .inr (5, [.int (nI w), .int (nI h), .ref q1, .ref q2, .ref q3, .ref q4, .ref q5, .ref q6])), (q4, .inl (cy4, 100, .inl f4))] : va_W)) s.heap := hP
  refine lv_aload_n hx hb dX3_fireAt_0 rfl (lv_at hl 0 rfl) ?_
  refine lv_aload_n hx hb dX3_fireAt_1 rfl (lv_at hl 0 rfl) ?_
  refine va_get (D := D) (ci := 3) (v := .ref rv) (C := RX3) (T := TX3) (N := 6) hx hb hts inG_X3 hown hK hP 10 rfl rfl 1 (by decide) (hts _ kw_1_219) (fun _ h9 => h9) rfl dX3_fireAt_2 ?_
  refine lv_iload_n hx hb dX3_fireAt_5 rfl (lv_at hl 1 rfl) ?_
  refine lv_iload_n hx hb dX3_fireAt_6 rfl (lv_at hl 2 rfl) ?_
  refine mc_Vi (rest := [.ref h0]) (wr := (bL bo B1 B2 B3 B4 B5 B6 B7 ++ ([(h0, .inr (3, [.ref cu, .ref rv, .ref bt, .int (nI bc), .int ho, .int fe])), (bt, .inl (bc9, 10, .inr (.inr (.inr (.inr (fun j => some (bo j)))))))] : va_W))) F hK hP hD hS hA (c_guestAt l D rv q1 q2 q3 q4 q5 q6 cy4 f4 w h x y (by omega) (by omega)) ⟨gk_X3_169.1, gk_X3_169.2, Nat.le_of_ble_eq_true rfl, Nat.le_of_ble_eq_true rfl⟩ [12, 13] [0, 1, 2, 3, 4, 5, 6, 7, 8, 9, 10, 11] [1] ⟨rfl, rfl, rfl, rfl, by decide⟩ rfl xT_move (fun _ _ _ => trivial) 12 rfl rfl rfl hl.1 rfl (Nat.le_of_ble_eq_true rfl) dX3_fireAt_7 ⟨Nat.le_of_ble_eq_true rfl, Nat.le_of_ble_eq_true rfl⟩ (fun r_1 _ H locs hw hK1 hP hD hS => ?_)
  have hP : va_P D vwCl (bL bo B1 B2 B3 B4 B5 B6 B7 ++ ([(h0, .inr (3, [.ref cu, .ref rv, .ref bt, .int (nI bc), .int ho, .int fe])), (bt, .inl (bc9, 10, .inr (.inr (.inr (.inr (fun j => some (bo j))))))), (rv, .inr (5, [.int (nI w), .int (nI h), .ref q1, .ref q2, .ref q3, .ref q4, .ref q5, .ref q6])), (q4, .inl (cy4, 100, .inl f4))] : va_W)) H := hP
  have hD : va_D A (bL bo B1 B2 B3 B4 B5 B6 B7 ++ ([(h0, .inr (3, [.ref cu, .ref rv, .ref bt, .int (nI bc), .int ho, .int fe])), (bt, .inl (bc9, 10, .inr (.inr (.inr (.inr (fun j => some (bo j))))))), (rv, .inr (5, [.int (nI w), .int (nI h), .ref q1, .ref q2, .ref q3, .ref q4, .ref q5, .ref q6])), (q4, .inl (cy4, 100, .inl f4))] : va_W)) := hD
  have hw_2 : r_1 = r_1 := hw
  refine mc_Vq (rest := []) (wr := (bL bo B1 B2 B3 B4 B5 B6 B7 ++ ([(rv, .inr (5, [.int (nI w), .int (nI h), .ref q1, .ref q2, .ref q3, .ref q4, .ref q5, .ref q6])), (q4, .inl (cy4, 100, .inl f4))] : va_W))) F hK hP hD hS hA (c_boothNumbered l D bo h0 cu rv bt bc9 bc ho fe r_1 (by omega)) ⟨gk_X3_172.1, gk_X3_172.2, Nat.le_of_ble_eq_true rfl, Nat.le_of_ble_eq_true rfl⟩ [10, 11] [0, 1, 2, 3, 4, 5, 6, 7, 8, 9, 12, 13] [0] ⟨rfl, rfl, rfl, rfl, by decide⟩ rfl xT_move (fun _ _ _ => trivial) 10 rfl rfl rfl hl.1 rfl (Nat.le_of_ble_eq_true rfl) dX3_fireAt_10 ⟨Nat.le_of_ble_eq_true rfl, Nat.le_of_ble_eq_true rfl⟩ (fun r_3 _ H locs hw hK1 hP hD hS => ?_)
  have hP : va_P D vwCl (bL bo B1 B2 B3 B4 B5 B6 B7 ++ ([(rv, .inr (5, [.int (nI w), .int (nI h), .ref q1, .ref q2, .ref q3, .ref q4, .ref q5, .ref q6])), (q4, .inl (cy4, 100, .inl f4)), (h0, .inr (3, [.ref cu, .ref rv, .ref bt, .int (nI bc), .int ho, .int fe])), (bt, .inl (bc9, 10, .inr (.inr (.inr (.inr (fun j => some (bo j)))))))] : va_W)) H := hP
  have hD : va_D A (bL bo B1 B2 B3 B4 B5 B6 B7 ++ ([(rv, .inr (5, [.int (nI w), .int (nI h), .ref q1, .ref q2, .ref q3, .ref q4, .ref q5, .ref q6])), (q4, .inl (cy4, 100, .inl f4)), (h0, .inr (3, [.ref cu, .ref rv, .ref bt, .int (nI bc), .int ho, .int fe])), (bt, .inl (bc9, 10, .inr (.inr (.inr (.inr (fun j => some (bo j)))))))] : va_W)) := hD
  have hw_4 : r_3 = none ∨ ∃ j : Nat, j < bc ∧ r_1 = nI j ∧ r_3 = some (bo j) := hw
  rcases hw_4 with hq | ⟨jb_5, hjb_5, xjb_5, hq⟩
  · skip
    subst hq
    refine W.eq (g2 := F0 m 13 ls [.null]) rfl ?_
    refine lv_astore_nN (lv' := [(3, .null), (0, .ref h0), (1, .int x), (2, .int y)]) hx hb dX3_fireAt_13 rfl hl (by decide) rfl (fun ls hl => ?_)
    refine lv_aload_nN hx hb dX3_fireAt_14 rfl (lv_at hl 0 rfl) ?_
    refine lv_ifnullN (tgt := 29) hx hb dX3_fireAt_15 (by decide) ?_
    refine lv_iconst (v := 0) hx hb dX3_fireAt_29 (by decide) ?_
    have hP9 := hP.sub (ws' := (bL bo B1 B2 B3 B4 B5 B6 B7 ++ ([(h0, .inr (3, [.ref cu, .ref rv, .ref bt, .int (nI bc), .int ho, .int fe])), (bt, .inl (bc9, 10, .inr (.inr (.inr (.inr (fun j => some (bo j))))))), (rv, .inr (5, [.int (nI w), .int (nI h), .ref q1, .ref q2, .ref q3, .ref q4, .ref q5, .ref q6])), (q4, .inl (cy4, 100, .inl f4))] : va_W))) [0, 1, 2, 3, 4, 5, 6, 7, 8, 9, 12, 13, 10, 11] rfl
    have hD9 := hD.sub (ws' := (bL bo B1 B2 B3 B4 B5 B6 B7 ++ ([(h0, .inr (3, [.ref cu, .ref rv, .ref bt, .int (nI bc), .int ho, .int fe])), (bt, .inl (bc9, 10, .inr (.inr (.inr (.inr (fun j => some (bo j))))))), (rv, .inr (5, [.int (nI w), .int (nI h), .ref q1, .ref q2, .ref q3, .ref q4, .ref q5, .ref q6])), (q4, .inl (cy4, 100, .inl f4))] : va_W))) [0, 1, 2, 3, 4, 5, 6, 7, 8, 9, 12, 13, 10, 11] (by decide) rfl
    have hK9 := hK.sub (tys' := []) [] rfl
    refine W.widen (k := 0) (n := 0) (by decide) (by decide) ?_
    exact W.iret (v := 0) hx hb hr (fun t ht hW => ⟨⟨0, (), rfl, rfl, by rw [ht]; exact hP9, va_K.moved hW.alike hK9, hD9⟩, hS.F ht⟩) hS.2.2 dX3_fireAt_30
  · skip
    subst hq
    refine W.eq (g2 := F0 m 13 ls [.ref (bo jb_5)]) rfl ?_
    refine lv_astore_n (lv' := [(3, .ref (bo jb_5)), (0, .ref h0), (1, .int x), (2, .int y)]) hx hb dX3_fireAt_13 rfl hl (by decide) rfl (fun ls hl => ?_)
    refine lv_aload_n hx hb dX3_fireAt_14 rfl (lv_at hl 0 rfl) ?_
    refine lv_ifnull hx hb dX3_fireAt_15 ?_
    refine lv_aload_n hx hb dX3_fireAt_18 rfl (lv_at hl 0 rfl) ?_
    refine va_get (D := D) (ci := 0) (v := .int (B3 jb_5)) (C := RX0) (T := TX0) (N := 7) hx hb hts inG_X0 hown hK hP jb_5 (bL_get (by omega)) rfl 2 (by decide) (hts _ kw_1_187) (fun _ h9 => h9) rfl dX3_fireAt_19 ?_
    refine lv_if_eq (tgt := 29) hx hb dX3_fireAt_22 (by decide) (fun c_6 => ?_) (fun c_6 => ?_)
    · skip
      refine lv_iconst (v := 0) hx hb dX3_fireAt_29 (by decide) ?_
      have hP9 := hP.sub (ws' := (bL bo B1 B2 B3 B4 B5 B6 B7 ++ ([(h0, .inr (3, [.ref cu, .ref rv, .ref bt, .int (nI bc), .int ho, .int fe])), (bt, .inl (bc9, 10, .inr (.inr (.inr (.inr (fun j => some (bo j))))))), (rv, .inr (5, [.int (nI w), .int (nI h), .ref q1, .ref q2, .ref q3, .ref q4, .ref q5, .ref q6])), (q4, .inl (cy4, 100, .inl f4))] : va_W))) [0, 1, 2, 3, 4, 5, 6, 7, 8, 9, 12, 13, 10, 11] rfl
      have hD9 := hD.sub (ws' := (bL bo B1 B2 B3 B4 B5 B6 B7 ++ ([(h0, .inr (3, [.ref cu, .ref rv, .ref bt, .int (nI bc), .int ho, .int fe])), (bt, .inl (bc9, 10, .inr (.inr (.inr (.inr (fun j => some (bo j))))))), (rv, .inr (5, [.int (nI w), .int (nI h), .ref q1, .ref q2, .ref q3, .ref q4, .ref q5, .ref q6])), (q4, .inl (cy4, 100, .inl f4))] : va_W))) [0, 1, 2, 3, 4, 5, 6, 7, 8, 9, 12, 13, 10, 11] (by decide) rfl
      have hK9 := hK.sub (tys' := []) [] rfl
      refine W.widen (k := 0) (n := 0) (by decide) (by decide) ?_
      exact W.iret (v := 0) hx hb hr (fun t ht hW => ⟨⟨0, (), rfl, rfl, by rw [ht]; exact hP9, va_K.moved hW.alike hK9, hD9⟩, hS.F ht⟩) hS.2.2 dX3_fireAt_30
    · skip
      refine lv_iconst (v := 1) hx hb dX3_fireAt_25 (by decide) ?_
      refine lv_goto (tgt := 30) hx hb dX3_fireAt_26 (by decide) ?_
      have hP9 := hP.sub (ws' := (bL bo B1 B2 B3 B4 B5 B6 B7 ++ ([(h0, .inr (3, [.ref cu, .ref rv, .ref bt, .int (nI bc), .int ho, .int fe])), (bt, .inl (bc9, 10, .inr (.inr (.inr (.inr (fun j => some (bo j))))))), (rv, .inr (5, [.int (nI w), .int (nI h), .ref q1, .ref q2, .ref q3, .ref q4, .ref q5, .ref q6])), (q4, .inl (cy4, 100, .inl f4))] : va_W))) [0, 1, 2, 3, 4, 5, 6, 7, 8, 9, 12, 13, 10, 11] rfl
      have hD9 := hD.sub (ws' := (bL bo B1 B2 B3 B4 B5 B6 B7 ++ ([(h0, .inr (3, [.ref cu, .ref rv, .ref bt, .int (nI bc), .int ho, .int fe])), (bt, .inl (bc9, 10, .inr (.inr (.inr (.inr (fun j => some (bo j))))))), (rv, .inr (5, [.int (nI w), .int (nI h), .ref q1, .ref q2, .ref q3, .ref q4, .ref q5, .ref q6])), (q4, .inl (cy4, 100, .inl f4))] : va_W))) [0, 1, 2, 3, 4, 5, 6, 7, 8, 9, 12, 13, 10, 11] (by decide) rfl
      have hK9 := hK.sub (tys' := []) [] rfl
      refine W.widen (k := 0) (n := 0) (by decide) (by decide) ?_
      exact W.iret (v := 1) hx hb hr (fun t ht hW => ⟨⟨1, (), rfl, rfl, by rw [ht]; exact hP9, va_K.moved hW.alike hK9, hD9⟩, hS.F ht⟩) hS.2.2 dX3_fireAt_30
theorem dX3_meltAt_0 : decode cX3_meltAt 0 = .ok (.aload_n 0, 1) := by decide +kernel
theorem dX3_meltAt_1 : decode cX3_meltAt 1 = .ok (.iload_n 1, 1) := by decide +kernel
theorem dX3_meltAt_2 : decode cX3_meltAt 2 = .ok (.iconst 1, 1) := by decide +kernel
theorem dX3_meltAt_3 : decode cX3_meltAt 3 = .ok (.isub, 1) := by decide +kernel
theorem dX3_meltAt_4 : decode cX3_meltAt 4 = .ok (.iload_n 2, 1) := by decide +kernel
theorem kw_3_142 : Cond.methodLink RX3 160 yX3_fireAt ∈ gw := gw_t3 (List.mem_of_getElem? (i := 142) (by decide +kernel)) (by decide +kernel)
theorem kw_3_144 : Cond.instanceMethod yX3_fireAt ∈ gw := gw_t3 (List.mem_of_getElem? (i := 144) (by decide +kernel)) (by decide +kernel)
theorem ks_1_12 : Cond.selects RX3 yX3_fireAt yX3_fireAt ∈ gw := gw_s (y := yX3_fireAt) (n := 6) (List.mem_append_left _ (List.mem_of_getElem? (i := 12) (by decide +kernel)))
theorem kw_3_145 : Cond.code yX3_fireAt cX3_fireAt 4 (some .int) ∈ gw := gw_t3 (List.mem_of_getElem? (i := 145) (by decide +kernel)) (by decide +kernel)
theorem gk_X3_160 : GoodIn gw (wsV RX3 160 RX3 yX3_fireAt (.code yX3_fireAt cX3_fireAt 4 (some .int) :: gw)) ∧ (yX3_fireAt.cls = RX3 ∧ yX3_fireAt.cls ≠ "java/lang/invoke/MethodHandle" ∧ yX3_fireAt.cls ≠ "java/lang/invoke/VarHandle" ∧ (parseMethodDescriptor yX3_fireAt.desc).map (fun d => d.parameters.length) = some 2) := ⟨gi_V kw_3_142 kw_3_144 ks_1_12 kw_1_6 kw_3_145, by decide +kernel⟩
theorem dX3_meltAt_5 : decode cX3_meltAt 5 = .ok (.invokevirtual 160, 3) := by decide +kernel
theorem dX3_meltAt_8 : decode cX3_meltAt 8 = .ok (.aload_n 0, 1) := by decide +kernel
theorem dX3_meltAt_9 : decode cX3_meltAt 9 = .ok (.iload_n 1, 1) := by decide +kernel
theorem dX3_meltAt_10 : decode cX3_meltAt 10 = .ok (.iconst 1, 1) := by decide +kernel
theorem dX3_meltAt_11 : decode cX3_meltAt 11 = .ok (.iadd, 1) := by decide +kernel
theorem dX3_meltAt_12 : decode cX3_meltAt 12 = .ok (.iload_n 2, 1) := by decide +kernel
theorem dX3_meltAt_13 : decode cX3_meltAt 13 = .ok (.invokevirtual 160, 3) := by decide +kernel
theorem dX3_meltAt_16 : decode cX3_meltAt 16 = .ok (.iadd, 1) := by decide +kernel
theorem dX3_meltAt_17 : decode cX3_meltAt 17 = .ok (.aload_n 0, 1) := by decide +kernel
theorem dX3_meltAt_18 : decode cX3_meltAt 18 = .ok (.iload_n 1, 1) := by decide +kernel
theorem dX3_meltAt_19 : decode cX3_meltAt 19 = .ok (.iload_n 2, 1) := by decide +kernel
theorem dX3_meltAt_20 : decode cX3_meltAt 20 = .ok (.iconst 1, 1) := by decide +kernel
theorem dX3_meltAt_21 : decode cX3_meltAt 21 = .ok (.isub, 1) := by decide +kernel
theorem dX3_meltAt_22 : decode cX3_meltAt 22 = .ok (.invokevirtual 160, 3) := by decide +kernel
theorem dX3_meltAt_25 : decode cX3_meltAt 25 = .ok (.iadd, 1) := by decide +kernel
theorem dX3_meltAt_26 : decode cX3_meltAt 26 = .ok (.aload_n 0, 1) := by decide +kernel
theorem dX3_meltAt_27 : decode cX3_meltAt 27 = .ok (.iload_n 1, 1) := by decide +kernel
theorem dX3_meltAt_28 : decode cX3_meltAt 28 = .ok (.iload_n 2, 1) := by decide +kernel
theorem dX3_meltAt_29 : decode cX3_meltAt 29 = .ok (.iconst 1, 1) := by decide +kernel
theorem dX3_meltAt_30 : decode cX3_meltAt 30 = .ok (.iadd, 1) := by decide +kernel
theorem dX3_meltAt_31 : decode cX3_meltAt 31 = .ok (.invokevirtual 160, 3) := by decide +kernel
theorem dX3_meltAt_34 : decode cX3_meltAt 34 = .ok (.iadd, 1) := by decide +kernel
theorem dX3_meltAt_35 : decode cX3_meltAt 35 = .ok (.istore_n 3, 1) := by decide +kernel
theorem dX3_meltAt_36 : decode cX3_meltAt 36 = .ok (.aload_n 0, 1) := by decide +kernel
theorem dX3_meltAt_37 : decode cX3_meltAt 37 = .ok (.iload_n 1, 1) := by decide +kernel
theorem dX3_meltAt_38 : decode cX3_meltAt 38 = .ok (.iload_n 2, 1) := by decide +kernel
theorem dX3_meltAt_39 : decode cX3_meltAt 39 = .ok (.invokevirtual 160, 3) := by decide +kernel
theorem dX3_meltAt_42 : decode cX3_meltAt 42 = .ok (.aload_n 0, 1) := by decide +kernel
theorem dX3_meltAt_43 : decode cX3_meltAt 43 = .ok (.getfield 12, 3) := by decide +kernel
theorem kw_3_151 : Cond.methodLink RX3 163 yX1_meltOn ∈ gw := gw_t3 (List.mem_of_getElem? (i := 151) (by decide +kernel)) (by decide +kernel)
theorem kw_3_152 : Cond.instanceMethod yX1_meltOn ∈ gw := gw_t3 (List.mem_of_getElem? (i := 152) (by decide +kernel)) (by decide +kernel)
theorem kw_3_153 : Cond.selects RX1 yX1_meltOn yX1_meltOn ∈ gw := gw_t3 (List.mem_of_getElem? (i := 153) (by decide +kernel)) (by decide +kernel)
theorem kw_3_154 : Cond.code yX1_meltOn cX1_meltOn 1 (some .int) ∈ gw := gw_t3 (List.mem_of_getElem? (i := 154) (by decide +kernel)) (by decide +kernel)
theorem gk_X3_163 : GoodIn gw (wsV RX3 163 RX1 yX1_meltOn (.code yX1_meltOn cX1_meltOn 1 (some .int) :: gw)) ∧ (yX1_meltOn.cls = RX1 ∧ yX1_meltOn.cls ≠ "java/lang/invoke/MethodHandle" ∧ yX1_meltOn.cls ≠ "java/lang/invoke/VarHandle" ∧ (parseMethodDescriptor yX1_meltOn.desc).map (fun d => d.parameters.length) = some 0) := ⟨gi_V kw_3_151 kw_3_152 kw_3_153 kw_1_4 kw_3_154, by decide +kernel⟩
theorem dX3_meltAt_46 : decode cX3_meltAt 46 = .ok (.invokevirtual 163, 3) := by decide +kernel
theorem dX3_meltAt_49 : decode cX3_meltAt 49 = .ok (.imul, 1) := by decide +kernel
theorem dX3_meltAt_50 : decode cX3_meltAt 50 = .ok (.iload_n 3, 1) := by decide +kernel
theorem dX3_meltAt_51 : decode cX3_meltAt 51 = .ok (.aload_n 0, 1) := by decide +kernel
theorem dX3_meltAt_52 : decode cX3_meltAt 52 = .ok (.getfield 12, 3) := by decide +kernel
theorem kw_3_155 : Cond.methodLink RX3 166 yX1_meltBeside ∈ gw := gw_t3 (List.mem_of_getElem? (i := 155) (by decide +kernel)) (by decide +kernel)
theorem kw_3_156 : Cond.instanceMethod yX1_meltBeside ∈ gw := gw_t3 (List.mem_of_getElem? (i := 156) (by decide +kernel)) (by decide +kernel)
theorem kw_3_157 : Cond.selects RX1 yX1_meltBeside yX1_meltBeside ∈ gw := gw_t3 (List.mem_of_getElem? (i := 157) (by decide +kernel)) (by decide +kernel)
theorem kw_3_158 : Cond.code yX1_meltBeside cX1_meltBeside 1 (some .int) ∈ gw := gw_t3 (List.mem_of_getElem? (i := 158) (by decide +kernel)) (by decide +kernel)
theorem gk_X3_166 : GoodIn gw (wsV RX3 166 RX1 yX1_meltBeside (.code yX1_meltBeside cX1_meltBeside 1 (some .int) :: gw)) ∧ (yX1_meltBeside.cls = RX1 ∧ yX1_meltBeside.cls ≠ "java/lang/invoke/MethodHandle" ∧ yX1_meltBeside.cls ≠ "java/lang/invoke/VarHandle" ∧ (parseMethodDescriptor yX1_meltBeside.desc).map (fun d => d.parameters.length) = some 0) := ⟨gi_V kw_3_155 kw_3_156 kw_3_157 kw_1_4 kw_3_158, by decide +kernel⟩
theorem dX3_meltAt_55 : decode cX3_meltAt 55 = .ok (.invokevirtual 166, 3) := by decide +kernel
theorem dX3_meltAt_58 : decode cX3_meltAt 58 = .ok (.imul, 1) := by decide +kernel
theorem dX3_meltAt_59 : decode cX3_meltAt 59 = .ok (.iadd, 1) := by decide +kernel
theorem dX3_meltAt_60 : decode cX3_meltAt 60 = .ok (.ireturn, 1) := by decide +kernel
set_option maxHeartbeats 4000000 in
set_option maxRecDepth 100000 in
theorem c_meltAt (l : Launch) (D : va_G) (bo : Nat → Nat) (B1 : Nat → Int32) (B2 : Nat → Int32) (B3 : Nat → Int32) (B4 : Nat → Int32) (B5 : Nat → Int32) (B6 : Nat → Int32) (B7 : Nat → Int32) (h0 : Nat) (cu : Nat) (rv : Nat) (bt : Nat) (bc9 : ClassId) (bc : Nat) (ho : Int32) (fe : Int32) (cu1 : Nat) (cu2 : Nat) (cu3 : Nat) (cu4 : Nat) (cc1 : ClassId) (cf1 : Nat → Int32) (sc : Int32) (to : Int32) (q1 : Nat) (q2 : Nat) (q3 : Nat) (q4 : Nat) (q5 : Nat) (q6 : Nat) (cy4 : ClassId) (f4 : Nat → Int32) (w : Nat) (h : Nat) (x : Int32) (y : Int32) (hbc : bc ≤ 10) (h3 : w ≤ 10) (h4 : h ≤ 10) : cI l yX3_meltAt (.code yX3_meltAt cX3_meltAt 4 (some .int)) ({ frames := 3, cells := 0, slots := 0, locals := 67 }) D [(bc9, .object RX0), (cc1, .int), (cy4, .int)] (bL bo B1 B2 B3 B4 B5 B6 B7 ++ ([(h0, .inr (3, [.ref cu, .ref rv, .ref bt, .int (nI bc), .int ho, .int fe])), (bt, .inl (bc9, 10, .inr (.inr (.inr (.inr (fun j => some (bo j))))))), (cu, .inr (1, [.ref cu1, .ref cu2, .ref cu3, .ref cu4, .int sc, .int to])), (cu1, .inl (cc1, 8, .inl cf1)), (rv, .inr (5, [.int (nI w), .int (nI h), .ref q1, .ref q2, .ref q3, .ref q4, .ref q5, .ref q6])), (q4, .inl (cy4, 100, .inl f4))] : va_W)) xT [.ref h0, .int x, .int y] (S := Unit) (fun r _ => r = r) (fun _ => []) (fun _ => (bL bo B1 B2 B3 B4 B5 B6 B7 ++ ([(h0, .inr (3, [.ref cu, .ref rv, .ref bt, .int (nI bc), .int ho, .int fe])), (bt, .inl (bc9, 10, .inr (.inr (.inr (.inr (fun j => some (bo j))))))), (cu, .inr (1, [.ref cu1, .ref cu2, .ref cu3, .ref cu4, .int sc, .int to])), (cu1, .inl (cc1, 8, .inl cf1)), (rv, .inr (5, [.int (nI w), .int (nI h), .ref q1, .ref q2, .ref q3, .ref q4, .ref q5, .ref q6])), (q4, .inl (cy4, 100, .inl f4))] : va_W))) := by
  intro sz
  refine Met.ofW (cc := cX3_meltAt) (maxL := 4) (ret := (some .int)) (by decide) rfl ?_
  intro p e s m args below meth c s₁ B hml hv
  obtain ⟨rfl, hsz, hP, hK, hD0, hX⟩ := hv
  have hx := B.exec
  have hb := B.bytes
  have hr := B.returns
  have hts0 := atoms_spec (ws := .code yX3_meltAt cX3_meltAt 4 (some .int) :: gw) B.pre
  have hts := fun (w : Cond) (h : w ∈ gw) => hts0 w (List.mem_cons_of_mem _ h)
  have hown : s.vm.findClass RX3 = some m.cls := findClass_of_methodNamed B.named
  have hlocks := B.notSynchronized
  have F : mFix p s m _ c cX3_meltAt 4 RX3 := ⟨hx, hb, hml, hown, hts⟩
  subst hsz
  have hD := hD0.self (sz := s.heap.size)
  generalize hAe : va_A (bL bo B1 B2 B3 B4 B5 B6 B7 ++ ([(h0, .inr (3, [.ref cu, .ref rv, .ref bt, .int (nI bc), .int ho, .int fe])), (bt, .inl (bc9, 10, .inr (.inr (.inr (.inr (fun j => some (bo j))))))), (cu, .inr (1, [.ref cu1, .ref cu2, .ref cu3, .ref cu4, .int sc, .int to])), (cu1, .inl (cc1, 8, .inl cf1)), (rv, .inr (5, [.int (nI w), .int (nI h), .ref q1, .ref q2, .ref q3, .ref q4, .ref q5, .ref q6])), (q4, .inl (cy4, 100, .inl f4))] : va_W)) s.heap.size = A at hD hX ⊢
  have hA : ∀ q : Nat, s.heap.size ≤ q → A q := fun q h => by rw [← hAe]; exact Or.inr h
  have hS : va_S A s.heap s.heap [] := va_S.rf
  have hl := lv_entry ([.ref h0, .int x, .int y]) (n := 4) (Nat.le_of_ble_eq_true rfl)
  rw [lg_entry_eq]
  generalize (lg_sl ([.ref h0, .int x, .int y]) ++ List.replicate (4 - (lg_sl ([.ref h0, .int x, .int y])).length) Slot.unset).toArray = ls at hl ⊢
  have hl : lv_has ls 4 [(0, .ref h0), (1, .int x), (2, .int y)] := hl
  have hP : va_P D vwCl (bL bo B1 B2 B3 B4 B5 B6 B7 ++ ([(h0, .inr (3, [.ref cu, .ref rv, .ref bt, .int (nI bc), .int ho, .int fe])), (bt, .inl (bc9, 10, .inr (.inr (.inr (.inr (fun j => some (bo j))))))), (cu, .inr (1, [.ref cu1, .ref cu2, .ref cu3, .ref cu4, .int sc, .int to])), (cu1, .inl (cc1, 8, .inl cf1)), (rv, .inr (5, [.int (nI w), .int (nI h), .ref q1, .ref q2, .ref q3, .ref q4, .ref q5, .ref q6])), (q4, .inl (cy4, 100, .inl f4))] : va_W)) s.heap := hP
  refine lv_aload_n hx hb dX3_meltAt_0 rfl (lv_at hl 0 rfl) ?_
  refine lv_iload_n hx hb dX3_meltAt_1 rfl (lv_at hl 1 rfl) ?_
  refine lv_iconst (v := 1) hx hb dX3_meltAt_2 (by decide) ?_
  refine lv_isub hx hb dX3_meltAt_3 ?_
  refine lv_topi (fun z_1 ez_1 => ?_)
  refine lv_iload_n hx hb dX3_meltAt_4 rfl (lv_at hl 2 rfl) ?_
  refine mc_Vi (rest := []) (wr := [(cu, .inr (1, [.ref cu1, .ref cu2, .ref cu3, .ref cu4, .int sc, .int to])), (cu1, .inl (cc1, 8, .inl cf1))]) F hK hP hD hS hA (c_fireAt l D bo B1 B2 B3 B4 B5 B6 B7 h0 cu rv bt bc9 bc ho fe q1 q2 q3 q4 q5 q6 cy4 f4 w h z_1 y (by omega) (by omega) (by omega)) ⟨gk_X3_160.1, gk_X3_160.2, Nat.le_of_ble_eq_true rfl, Nat.le_of_ble_eq_true rfl⟩ [0, 1, 2, 3, 4, 5, 6, 7, 8, 9, 10, 11, 14, 15] [12, 13] [0, 2] ⟨rfl, rfl, rfl, rfl, by decide⟩ rfl xT_move (fun _ _ _ => trivial) 10 rfl rfl rfl hl.1 rfl (Nat.le_of_ble_eq_true rfl) dX3_meltAt_5 ⟨Nat.le_of_ble_eq_true rfl, Nat.le_of_ble_eq_true rfl⟩ (fun r_2 _ H locs hw hK1 hP hD hS => ?_)
  have hP := hP.sub (ws' := (bL bo B1 B2 B3 B4 B5 B6 B7 ++ ([(cu, .inr (1, [.ref cu1, .ref cu2, .ref cu3, .ref cu4, .int sc, .int to])), (cu1, .inl (cc1, 8, .inl cf1)), (h0, .inr (3, [.ref cu, .ref rv, .ref bt, .int (nI bc), .int ho, .int fe])), (bt, .inl (bc9, 10, .inr (.inr (.inr (.inr (fun j => some (bo j))))))), (rv, .inr (5, [.int (nI w), .int (nI h), .ref q1, .ref q2, .ref q3, .ref q4, .ref q5, .ref q6])), (q4, .inl (cy4, 100, .inl f4))] : va_W))) [2, 3, 4, 5, 6, 7, 8, 9, 10, 11, 0, 1, 12, 13, 14, 15] rfl
  have hD := hD.sub (ws' := (bL bo B1 B2 B3 B4 B5 B6 B7 ++ ([(cu, .inr (1, [.ref cu1, .ref cu2, .ref cu3, .ref cu4, .int sc, .int to])), (cu1, .inl (cc1, 8, .inl cf1)), (h0, .inr (3, [.ref cu, .ref rv, .ref bt, .int (nI bc), .int ho, .int fe])), (bt, .inl (bc9, 10, .inr (.inr (.inr (.inr (fun j => some (bo j))))))), (rv, .inr (5, [.int (nI w), .int (nI h), .ref q1, .ref q2, .ref q3, .ref q4, .ref q5, .ref q6])), (q4, .inl (cy4, 100, .inl f4))] : va_W))) [2, 3, 4, 5, 6, 7, 8, 9, 10, 11, 0, 1, 12, 13, 14, 15] (by decide) rfl
  have hw_3 : r_2 = r_2 := hw
  refine lv_aload_n hx hb dX3_meltAt_8 rfl (lv_at hl 0 rfl) ?_
  refine lv_iload_n hx hb dX3_meltAt_9 rfl (lv_at hl 1 rfl) ?_
  refine lv_iconst (v := 1) hx hb dX3_meltAt_10 (by decide) ?_
  refine lv_iadd hx hb dX3_meltAt_11 ?_
  refine lv_topi (fun z_4 ez_4 => ?_)
  refine lv_iload_n hx hb dX3_meltAt_12 rfl (lv_at hl 2 rfl) ?_
  refine mc_Vi (rest := [.int r_2]) (wr := [(cu, .inr (1, [.ref cu1, .ref cu2, .ref cu3, .ref cu4, .int sc, .int to])), (cu1, .inl (cc1, 8, .inl cf1))]) F hK hP hD hS hA (c_fireAt l D bo B1 B2 B3 B4 B5 B6 B7 h0 cu rv bt bc9 bc ho fe q1 q2 q3 q4 q5 q6 cy4 f4 w h z_4 y (by omega) (by omega) (by omega)) ⟨gk_X3_160.1, gk_X3_160.2, Nat.le_of_ble_eq_true rfl, Nat.le_of_ble_eq_true rfl⟩ [0, 1, 2, 3, 4, 5, 6, 7, 8, 9, 12, 13, 14, 15] [10, 11] [0, 2] ⟨rfl, rfl, rfl, rfl, by decide⟩ rfl xT_move (fun _ _ _ => trivial) 12 rfl rfl rfl hl.1 rfl (Nat.le_of_ble_eq_true rfl) dX3_meltAt_13 ⟨Nat.le_of_ble_eq_true rfl, Nat.le_of_ble_eq_true rfl⟩ (fun r_5 _ H locs hw hK1 hP hD hS => ?_)
  have hP := hP.sub (ws' := (bL bo B1 B2 B3 B4 B5 B6 B7 ++ ([(cu, .inr (1, [.ref cu1, .ref cu2, .ref cu3, .ref cu4, .int sc, .int to])), (cu1, .inl (cc1, 8, .inl cf1)), (h0, .inr (3, [.ref cu, .ref rv, .ref bt, .int (nI bc), .int ho, .int fe])), (bt, .inl (bc9, 10, .inr (.inr (.inr (.inr (fun j => some (bo j))))))), (rv, .inr (5, [.int (nI w), .int (nI h), .ref q1, .ref q2, .ref q3, .ref q4, .ref q5, .ref q6])), (q4, .inl (cy4, 100, .inl f4))] : va_W))) [2, 3, 4, 5, 6, 7, 8, 9, 10, 11, 0, 1, 12, 13, 14, 15] rfl
  have hD := hD.sub (ws' := (bL bo B1 B2 B3 B4 B5 B6 B7 ++ ([(cu, .inr (1, [.ref cu1, .ref cu2, .ref cu3, .ref cu4, .int sc, .int to])), (cu1, .inl (cc1, 8, .inl cf1)), (h0, .inr (3, [.ref cu, .ref rv, .ref bt, .int (nI bc), .int ho, .int fe])), (bt, .inl (bc9, 10, .inr (.inr (.inr (.inr (fun j => some (bo j))))))), (rv, .inr (5, [.int (nI w), .int (nI h), .ref q1, .ref q2, .ref q3, .ref q4, .ref q5, .ref q6])), (q4, .inl (cy4, 100, .inl f4))] : va_W))) [2, 3, 4, 5, 6, 7, 8, 9, 10, 11, 0, 1, 12, 13, 14, 15] (by decide) rfl
  have hw_6 : r_5 = r_5 := hw
  refine lv_iadd hx hb dX3_meltAt_16 ?_
  refine lv_topi (fun z_7 ez_7 => ?_)
  refine lv_aload_n hx hb dX3_meltAt_17 rfl (lv_at hl 0 rfl) ?_
  refine lv_iload_n hx hb dX3_meltAt_18 rfl (lv_at hl 1 rfl) ?_
  refine lv_iload_n hx hb dX3_meltAt_19 rfl (lv_at hl 2 rfl) ?_
  refine lv_iconst (v := 1) hx hb dX3_meltAt_20 (by decide) ?_
  refine lv_isub hx hb dX3_meltAt_21 ?_
  refine lv_topi (fun z_8 ez_8 => ?_)
  refine mc_Vi (rest := [.int z_7]) (wr := [(cu, .inr (1, [.ref cu1, .ref cu2, .ref cu3, .ref cu4, .int sc, .int to])), (cu1, .inl (cc1, 8, .inl cf1))]) F hK hP hD hS hA (c_fireAt l D bo B1 B2 B3 B4 B5 B6 B7 h0 cu rv bt bc9 bc ho fe q1 q2 q3 q4 q5 q6 cy4 f4 w h x z_8 (by omega) (by omega) (by omega)) ⟨gk_X3_160.1, gk_X3_160.2, Nat.le_of_ble_eq_true rfl, Nat.le_of_ble_eq_true rfl⟩ [0, 1, 2, 3, 4, 5, 6, 7, 8, 9, 12, 13, 14, 15] [10, 11] [0, 2] ⟨rfl, rfl, rfl, rfl, by decide⟩ rfl xT_move (fun _ _ _ => trivial) 12 rfl rfl rfl hl.1 rfl (Nat.le_of_ble_eq_true rfl) dX3_meltAt_22 ⟨Nat.le_of_ble_eq_true rfl, Nat.le_of_ble_eq_true rfl⟩ (fun r_9 _ H locs hw hK1 hP hD hS => ?_)
  have hP := hP.sub (ws' := (bL bo B1 B2 B3 B4 B5 B6 B7 ++ ([(cu, .inr (1, [.ref cu1, .ref cu2, .ref cu3, .ref cu4, .int sc, .int to])), (cu1, .inl (cc1, 8, .inl cf1)), (h0, .inr (3, [.ref cu, .ref rv, .ref bt, .int (nI bc), .int ho, .int fe])), (bt, .inl (bc9, 10, .inr (.inr (.inr (.inr (fun j => some (bo j))))))), (rv, .inr (5, [.int (nI w), .int (nI h), .ref q1, .ref q2, .ref q3, .ref q4, .ref q5, .ref q6])), (q4, .inl (cy4, 100, .inl f4))] : va_W))) [2, 3, 4, 5, 6, 7, 8, 9, 10, 11, 0, 1, 12, 13, 14, 15] rfl
  have hD := hD.sub (ws' := (bL bo B1 B2 B3 B4 B5 B6 B7 ++ ([(cu, .inr (1, [.ref cu1, .ref cu2, .ref cu3, .ref cu4, .int sc, .int to])), (cu1, .inl (cc1, 8, .inl cf1)), (h0, .inr (3, [.ref cu, .ref rv, .ref bt, .int (nI bc), .int ho, .int fe])), (bt, .inl (bc9, 10, .inr (.inr (.inr (.inr (fun j => some (bo j))))))), (rv, .inr (5, [.int (nI w), .int (nI h), .ref q1, .ref q2, .ref q3, .ref q4, .ref q5, .ref q6])), (q4, .inl (cy4, 100, .inl f4))] : va_W))) [2, 3, 4, 5, 6, 7, 8, 9, 10, 11, 0, 1, 12, 13, 14, 15] (by decide) rfl
  have hw_10 : r_9 = r_9 := hw
  refine lv_iadd hx hb dX3_meltAt_25 ?_
  refine lv_topi (fun z_11 ez_11 => ?_)
  refine lv_aload_n hx hb dX3_meltAt_26 rfl (lv_at hl 0 rfl) ?_
  refine lv_iload_n hx hb dX3_meltAt_27 rfl (lv_at hl 1 rfl) ?_
  refine lv_iload_n hx hb dX3_meltAt_28 rfl (lv_at hl 2 rfl) ?_
  refine lv_iconst (v := 1) hx hb dX3_meltAt_29 (by decide) ?_
  refine lv_iadd hx hb dX3_meltAt_30 ?_
  refine lv_topi (fun z_12 ez_12 => ?_)
  refine mc_Vi (rest := [.int z_11]) (wr := [(cu, .inr (1, [.ref cu1, .ref cu2, .ref cu3, .ref cu4, .int sc, .int to])), (cu1, .inl (cc1, 8, .inl cf1))]) F hK hP hD hS hA (c_fireAt l D bo B1 B2 B3 B4 B5 B6 B7 h0 cu rv bt bc9 bc ho fe q1 q2 q3 q4 q5 q6 cy4 f4 w h x z_12 (by omega) (by omega) (by omega)) ⟨gk_X3_160.1, gk_X3_160.2, Nat.le_of_ble_eq_true rfl, Nat.le_of_ble_eq_true rfl⟩ [0, 1, 2, 3, 4, 5, 6, 7, 8, 9, 12, 13, 14, 15] [10, 11] [0, 2] ⟨rfl, rfl, rfl, rfl, by decide⟩ rfl xT_move (fun _ _ _ => trivial) 12 rfl rfl rfl hl.1 rfl (Nat.le_of_ble_eq_true rfl) dX3_meltAt_31 ⟨Nat.le_of_ble_eq_true rfl, Nat.le_of_ble_eq_true rfl⟩ (fun r_13 _ H locs hw hK1 hP hD hS => ?_)
  have hP := hP.sub (ws' := (bL bo B1 B2 B3 B4 B5 B6 B7 ++ ([(cu, .inr (1, [.ref cu1, .ref cu2, .ref cu3, .ref cu4, .int sc, .int to])), (cu1, .inl (cc1, 8, .inl cf1)), (h0, .inr (3, [.ref cu, .ref rv, .ref bt, .int (nI bc), .int ho, .int fe])), (bt, .inl (bc9, 10, .inr (.inr (.inr (.inr (fun j => some (bo j))))))), (rv, .inr (5, [.int (nI w), .int (nI h), .ref q1, .ref q2, .ref q3, .ref q4, .ref q5, .ref q6])), (q4, .inl (cy4, 100, .inl f4))] : va_W))) [2, 3, 4, 5, 6, 7, 8, 9, 10, 11, 0, 1, 12, 13, 14, 15] rfl
  have hD := hD.sub (ws' := (bL bo B1 B2 B3 B4 B5 B6 B7 ++ ([(cu, .inr (1, [.ref cu1, .ref cu2, .ref cu3, .ref cu4, .int sc, .int to])), (cu1, .inl (cc1, 8, .inl cf1)), (h0, .inr (3, [.ref cu, .ref rv, .ref bt, .int (nI bc), .int ho, .int fe])), (bt, .inl (bc9, 10, .inr (.inr (.inr (.inr (fun j => some (bo j))))))), (rv, .inr (5, [.int (nI w), .int (nI h), .ref q1, .ref q2, .ref q3, .ref q4, .ref q5, .ref q6])), (q4, .inl (cy4, 100, .inl f4))] : va_W))) [2, 3, 4, 5, 6, 7, 8, 9, 10, 11, 0, 1, 12, 13, 14, 15] (by decide) rfl
  have hw_14 : r_13 = r_13 := hw
  refine lv_iadd hx hb dX3_meltAt_34 ?_
  refine lv_topi (fun z_15 ez_15 => ?_)
  refine lv_istore_n (lv' := [(3, .int z_15), (0, .ref h0), (1, .int x), (2, .int y)]) hx hb dX3_meltAt_35 rfl hl (by decide) rfl (fun ls hl => ?_)
  refine lv_aload_n hx hb dX3_meltAt_36 rfl (lv_at hl 1 rfl) ?_
  refine lv_iload_n hx hb dX3_meltAt_37 rfl (lv_at hl 2 rfl) ?_
  refine lv_iload_n hx hb dX3_meltAt_38 rfl (lv_at hl 3 rfl) ?_
  refine mc_Vi (rest := []) (wr := [(cu, .inr (1, [.ref cu1, .ref cu2, .ref cu3, .ref cu4, .int sc, .int to])), (cu1, .inl (cc1, 8, .inl cf1))]) F hK hP hD hS hA (c_fireAt l D bo B1 B2 B3 B4 B5 B6 B7 h0 cu rv bt bc9 bc ho fe q1 q2 q3 q4 q5 q6 cy4 f4 w h x y (by omega) (by omega) (by omega)) ⟨gk_X3_160.1, gk_X3_160.2, Nat.le_of_ble_eq_true rfl, Nat.le_of_ble_eq_true rfl⟩ [0, 1, 2, 3, 4, 5, 6, 7, 8, 9, 12, 13, 14, 15] [10, 11] [0, 2] ⟨rfl, rfl, rfl, rfl, by decide⟩ rfl xT_move (fun _ _ _ => trivial) 12 rfl rfl rfl hl.1 rfl (Nat.le_of_ble_eq_true rfl) dX3_meltAt_39 ⟨Nat.le_of_ble_eq_true rfl, Nat.le_of_ble_eq_true rfl⟩ (fun r_16 _ H locs hw hK1 hP hD hS => ?_)
  have hP := hP.sub (ws' := (bL bo B1 B2 B3 B4 B5 B6 B7 ++ ([(cu, .inr (1, [.ref cu1, .ref cu2, .ref cu3, .ref cu4, .int sc, .int to])), (cu1, .inl (cc1, 8, .inl cf1)), (h0, .inr (3, [.ref cu, .ref rv, .ref bt, .int (nI bc), .int ho, .int fe])), (bt, .inl (bc9, 10, .inr (.inr (.inr (.inr (fun j => some (bo j))))))), (rv, .inr (5, [.int (nI w), .int (nI h), .ref q1, .ref q2, .ref q3, .ref q4, .ref q5, .ref q6])), (q4, .inl (cy4, 100, .inl f4))] : va_W))) [2, 3, 4, 5, 6, 7, 8, 9, 10, 11, 0, 1, 12, 13, 14, 15] rfl
  have hD := hD.sub (ws' := (bL bo B1 B2 B3 B4 B5 B6 B7 ++ ([(cu, .inr (1, [.ref cu1, .ref cu2, .ref cu3, .ref cu4, .int sc, .int to])), (cu1, .inl (cc1, 8, .inl cf1)), (h0, .inr (3, [.ref cu, .ref rv, .ref bt, .int (nI bc), .int ho, .int fe])), (bt, .inl (bc9, 10, .inr (.inr (.inr (.inr (fun j => some (bo j))))))), (rv, .inr (5, [.int (nI w), .int (nI h), .ref q1, .ref q2, .ref q3, .ref q4, .ref q5, .ref q6])), (q4, .inl (cy4, 100, .inl f4))] : va_W))) [2, 3, 4, 5, 6, 7, 8, 9, 10, 11, 0, 1, 12, 13, 14, 15] (by decide) rfl
  have hw_17 : r_16 = r_16 := hw
  refine lv_aload_n hx hb dX3_meltAt_42 rfl (lv_at hl 1 rfl) ?_
  refine va_get (D := D) (ci := 3) (v := .ref cu) (C := RX3) (T := TX3) (N := 6) hx hb hts inG_X3 hown hK hP 12 rfl rfl 0 (by decide) (hts _ kw_1_215) (fun _ h9 => h9) rfl dX3_meltAt_43 ?_
  refine mc_Vi (rest := [.int r_16]) (wr := (bL bo B1 B2 B3 B4 B5 B6 B7 ++ ([(h0, .inr (3, [.ref cu, .ref rv, .ref bt, .int (nI bc), .int ho, .int fe])), (bt, .inl (bc9, 10, .inr (.inr (.inr (.inr (fun j => some (bo j))))))), (rv, .inr (5, [.int (nI w), .int (nI h), .ref q1, .ref q2, .ref q3, .ref q4, .ref q5, .ref q6])), (q4, .inl (cy4, 100, .inl f4))] : va_W))) F hK hP hD hS hA (c_cu_meltOn l D cu cu1 cu2 cu3 cu4 cc1 cf1 sc to ) ⟨gk_X3_163.1, gk_X3_163.2, Nat.le_of_ble_eq_true rfl, Nat.le_of_ble_eq_true rfl⟩ [10, 11] [0, 1, 2, 3, 4, 5, 6, 7, 8, 9, 12, 13, 14, 15] [1] ⟨rfl, rfl, rfl, rfl, by decide⟩ rfl xT_move (fun _ _ _ => trivial) 10 rfl rfl rfl hl.1 rfl (Nat.le_of_ble_eq_true rfl) dX3_meltAt_46 ⟨Nat.le_of_ble_eq_true rfl, Nat.le_of_ble_eq_true rfl⟩ (fun r_18 _ H locs hw hK1 hP hD hS => ?_)
  have hP : va_P D vwCl (bL bo B1 B2 B3 B4 B5 B6 B7 ++ ([(h0, .inr (3, [.ref cu, .ref rv, .ref bt, .int (nI bc), .int ho, .int fe])), (bt, .inl (bc9, 10, .inr (.inr (.inr (.inr (fun j => some (bo j))))))), (rv, .inr (5, [.int (nI w), .int (nI h), .ref q1, .ref q2, .ref q3, .ref q4, .ref q5, .ref q6])), (q4, .inl (cy4, 100, .inl f4)), (cu, .inr (1, [.ref cu1, .ref cu2, .ref cu3, .ref cu4, .int sc, .int to])), (cu1, .inl (cc1, 8, .inl cf1))] : va_W)) H := hP
  have hD : va_D A (bL bo B1 B2 B3 B4 B5 B6 B7 ++ ([(h0, .inr (3, [.ref cu, .ref rv, .ref bt, .int (nI bc), .int ho, .int fe])), (bt, .inl (bc9, 10, .inr (.inr (.inr (.inr (fun j => some (bo j))))))), (rv, .inr (5, [.int (nI w), .int (nI h), .ref q1, .ref q2, .ref q3, .ref q4, .ref q5, .ref q6])), (q4, .inl (cy4, 100, .inl f4)), (cu, .inr (1, [.ref cu1, .ref cu2, .ref cu3, .ref cu4, .int sc, .int to])), (cu1, .inl (cc1, 8, .inl cf1))] : va_W)) := hD
  have hw_19 : r_18 = cf1 1 := hw
  refine lv_imul hx hb dX3_meltAt_49 ?_
  refine lv_topi (fun z_20 ez_20 => ?_)
  refine lv_iload_n hx hb dX3_meltAt_50 rfl (lv_at hl 0 rfl) ?_
  refine lv_aload_n hx hb dX3_meltAt_51 rfl (lv_at hl 1 rfl) ?_
  refine va_get (D := D) (ci := 3) (v := .ref cu) (C := RX3) (T := TX3) (N := 6) hx hb hts inG_X3 hown hK hP 10 rfl rfl 0 (by decide) (hts _ kw_1_215) (fun _ h9 => h9) rfl dX3_meltAt_52 ?_
  refine mc_Vi (rest := [.int z_15, .int z_20]) (wr := (bL bo B1 B2 B3 B4 B5 B6 B7 ++ ([(h0, .inr (3, [.ref cu, .ref rv, .ref bt, .int (nI bc), .int ho, .int fe])), (bt, .inl (bc9, 10, .inr (.inr (.inr (.inr (fun j => some (bo j))))))), (rv, .inr (5, [.int (nI w), .int (nI h), .ref q1, .ref q2, .ref q3, .ref q4, .ref q5, .ref q6])), (q4, .inl (cy4, 100, .inl f4))] : va_W))) F hK hP hD hS hA (c_cu_meltBeside l D cu cu1 cu2 cu3 cu4 cc1 cf1 sc to ) ⟨gk_X3_166.1, gk_X3_166.2, Nat.le_of_ble_eq_true rfl, Nat.le_of_ble_eq_true rfl⟩ [14, 15] [0, 1, 2, 3, 4, 5, 6, 7, 8, 9, 10, 11, 12, 13] [1] ⟨rfl, rfl, rfl, rfl, by decide⟩ rfl xT_move (fun _ _ _ => trivial) 14 rfl rfl rfl hl.1 rfl (Nat.le_of_ble_eq_true rfl) dX3_meltAt_55 ⟨Nat.le_of_ble_eq_true rfl, Nat.le_of_ble_eq_true rfl⟩ (fun r_21 _ H locs hw hK1 hP hD hS => ?_)
  have hP : va_P D vwCl (bL bo B1 B2 B3 B4 B5 B6 B7 ++ ([(h0, .inr (3, [.ref cu, .ref rv, .ref bt, .int (nI bc), .int ho, .int fe])), (bt, .inl (bc9, 10, .inr (.inr (.inr (.inr (fun j => some (bo j))))))), (rv, .inr (5, [.int (nI w), .int (nI h), .ref q1, .ref q2, .ref q3, .ref q4, .ref q5, .ref q6])), (q4, .inl (cy4, 100, .inl f4)), (cu, .inr (1, [.ref cu1, .ref cu2, .ref cu3, .ref cu4, .int sc, .int to])), (cu1, .inl (cc1, 8, .inl cf1))] : va_W)) H := hP
  have hD : va_D A (bL bo B1 B2 B3 B4 B5 B6 B7 ++ ([(h0, .inr (3, [.ref cu, .ref rv, .ref bt, .int (nI bc), .int ho, .int fe])), (bt, .inl (bc9, 10, .inr (.inr (.inr (.inr (fun j => some (bo j))))))), (rv, .inr (5, [.int (nI w), .int (nI h), .ref q1, .ref q2, .ref q3, .ref q4, .ref q5, .ref q6])), (q4, .inl (cy4, 100, .inl f4)), (cu, .inr (1, [.ref cu1, .ref cu2, .ref cu3, .ref cu4, .int sc, .int to])), (cu1, .inl (cc1, 8, .inl cf1))] : va_W)) := hD
  have hw_22 : r_21 = cf1 2 := hw
  refine lv_imul hx hb dX3_meltAt_58 ?_
  refine lv_topi (fun z_23 ez_23 => ?_)
  refine lv_iadd hx hb dX3_meltAt_59 ?_
  refine lv_topi (fun z_24 ez_24 => ?_)
  have hP9 := hP.sub (ws' := (bL bo B1 B2 B3 B4 B5 B6 B7 ++ ([(h0, .inr (3, [.ref cu, .ref rv, .ref bt, .int (nI bc), .int ho, .int fe])), (bt, .inl (bc9, 10, .inr (.inr (.inr (.inr (fun j => some (bo j))))))), (cu, .inr (1, [.ref cu1, .ref cu2, .ref cu3, .ref cu4, .int sc, .int to])), (cu1, .inl (cc1, 8, .inl cf1)), (rv, .inr (5, [.int (nI w), .int (nI h), .ref q1, .ref q2, .ref q3, .ref q4, .ref q5, .ref q6])), (q4, .inl (cy4, 100, .inl f4))] : va_W))) [0, 1, 2, 3, 4, 5, 6, 7, 8, 9, 10, 11, 14, 15, 12, 13] rfl
  have hD9 := hD.sub (ws' := (bL bo B1 B2 B3 B4 B5 B6 B7 ++ ([(h0, .inr (3, [.ref cu, .ref rv, .ref bt, .int (nI bc), .int ho, .int fe])), (bt, .inl (bc9, 10, .inr (.inr (.inr (.inr (fun j => some (bo j))))))), (cu, .inr (1, [.ref cu1, .ref cu2, .ref cu3, .ref cu4, .int sc, .int to])), (cu1, .inl (cc1, 8, .inl cf1)), (rv, .inr (5, [.int (nI w), .int (nI h), .ref q1, .ref q2, .ref q3, .ref q4, .ref q5, .ref q6])), (q4, .inl (cy4, 100, .inl f4))] : va_W))) [0, 1, 2, 3, 4, 5, 6, 7, 8, 9, 10, 11, 14, 15, 12, 13] (by decide) rfl
  have hK9 := hK.sub (tys' := []) [] rfl
  refine W.widen (k := 0) (n := 0) (by decide) (by decide) ?_
  exact W.iret (v := z_24) hx hb hr (fun t ht hW => ⟨⟨z_24, (), rfl, rfl, by rw [ht]; exact hP9, va_K.moved hW.alike hK9, hD9⟩, hS.F ht⟩) hS.2.2 dX3_meltAt_60
theorem dX3_sinkAt_0 : decode cX3_sinkAt 0 = .ok (.aload_n 0, 1) := by decide +kernel
theorem dX3_sinkAt_1 : decode cX3_sinkAt 1 = .ok (.aload_n 0, 1) := by decide +kernel
theorem dX3_sinkAt_2 : decode cX3_sinkAt 2 = .ok (.getfield 21, 3) := by decide +kernel
theorem dX3_sinkAt_5 : decode cX3_sinkAt 5 = .ok (.iload_n 1, 1) := by decide +kernel
theorem dX3_sinkAt_6 : decode cX3_sinkAt 6 = .ok (.iload_n 2, 1) := by decide +kernel
theorem dX3_sinkAt_7 : decode cX3_sinkAt 7 = .ok (.invokevirtual 169, 3) := by decide +kernel
theorem dX3_sinkAt_10 : decode cX3_sinkAt 10 = .ok (.invokevirtual 172, 3) := by decide +kernel
theorem dX3_sinkAt_13 : decode cX3_sinkAt 13 = .ok (.astore_n 3, 1) := by decide +kernel
theorem dX3_sinkAt_14 : decode cX3_sinkAt 14 = .ok (.aload_n 3, 1) := by decide +kernel
theorem dX3_sinkAt_15 : decode cX3_sinkAt 15 = .ok (.ifnonnull 5, 3) := by decide +kernel
theorem dX3_sinkAt_18 : decode cX3_sinkAt 18 = .ok (.iconst 0, 1) := by decide +kernel
theorem dX3_sinkAt_19 : decode cX3_sinkAt 19 = .ok (.ireturn, 1) := by decide +kernel
theorem dX3_sinkAt_20 : decode cX3_sinkAt 20 = .ok (.aload_n 0, 1) := by decide +kernel
theorem dX3_sinkAt_21 : decode cX3_sinkAt 21 = .ok (.aload_n 3, 1) := by decide +kernel
theorem dX3_sinkAt_22 : decode cX3_sinkAt 22 = .ok (.iconst 2, 1) := by decide +kernel
theorem kw_3_185 : Cond.methodLink RX3 182 yX3_lift ∈ gw := gw_t3 (List.mem_of_getElem? (i := 185) (by decide +kernel)) (by decide +kernel)
theorem kw_3_119 : Cond.instanceMethod yX3_lift ∈ gw := gw_t3 (List.mem_of_getElem? (i := 119) (by decide +kernel)) (by decide +kernel)
theorem kw_3_120 : Cond.selects RX3 yX3_lift yX3_lift ∈ gw := gw_t3 (List.mem_of_getElem? (i := 120) (by decide +kernel)) (by decide +kernel)
theorem kw_3_121 : Cond.code yX3_lift cX3_lift 3 none ∈ gw := gw_t3 (List.mem_of_getElem? (i := 121) (by decide +kernel)) (by decide +kernel)
theorem gk_X3_182 : GoodIn gw (wsV RX3 182 RX3 yX3_lift (.code yX3_lift cX3_lift 3 none :: gw)) ∧ (yX3_lift.cls = RX3 ∧ yX3_lift.cls ≠ "java/lang/invoke/MethodHandle" ∧ yX3_lift.cls ≠ "java/lang/invoke/VarHandle" ∧ (parseMethodDescriptor yX3_lift.desc).map (fun d => d.parameters.length) = some 2) := ⟨gi_V kw_3_185 kw_3_119 kw_3_120 kw_1_6 kw_3_121, by decide +kernel⟩
theorem dX3_sinkAt_23 : decode cX3_sinkAt 23 = .ok (.invokevirtual 182, 3) := by decide +kernel
theorem dX3_sinkAt_26 : decode cX3_sinkAt 26 = .ok (.iconst 1, 1) := by decide +kernel
theorem dX3_sinkAt_27 : decode cX3_sinkAt 27 = .ok (.ireturn, 1) := by decide +kernel
set_option maxHeartbeats 4000000 in
set_option maxRecDepth 100000 in
theorem c_sinkAt (l : Launch) (D : va_G) (bo : Nat → Nat) (B1 : Nat → Int32) (B2 : Nat → Int32) (B3 : Nat → Int32) (B4 : Nat → Int32) (B5 : Nat → Int32) (B6 : Nat → Int32) (B7 : Nat → Int32) (h0 : Nat) (cu : Nat) (rv : Nat) (bt : Nat) (bc9 : ClassId) (bc : Nat) (ho : Int32) (fe : Int32) (q1 : Nat) (q2 : Nat) (q3 : Nat) (q4 : Nat) (q5 : Nat) (q6 : Nat) (cy3 : ClassId) (cy4 : ClassId) (f3 : Nat → Int32) (f4 : Nat → Int32) (w : Nat) (h : Nat) (x : Int32) (y : Int32) (hbc : bc ≤ 10) (h3 : w ≤ 10) (h4 : h ≤ 10) : cI l yX3_sinkAt (.code yX3_sinkAt cX3_sinkAt 4 (some .int)) ({ frames := 3, cells := 0, slots := 0, locals := 69 }) D [(bc9, .object RX0), (cy3, .int), (cy4, .int)] (bL bo B1 B2 B3 B4 B5 B6 B7 ++ ([(h0, .inr (3, [.ref cu, .ref rv, .ref bt, .int (nI bc), .int ho, .int fe])), (bt, .inl (bc9, 10, .inr (.inr (.inr (.inr (fun j => some (bo j))))))), (rv, .inr (5, [.int (nI w), .int (nI h), .ref q1, .ref q2, .ref q3, .ref q4, .ref q5, .ref q6])), (q3, .inl (cy3, 100, .inl f3)), (q4, .inl (cy4, 100, .inl f4))] : va_W)) xT [.ref h0, .int x, .int y] (S := (Nat → Int32) × (Nat → Int32) × (Nat → Int32) × (Nat → Int32) × (Nat → Int32)) (fun r u => match u with | (G5, G6, G7, g3, g4) => r = r) (fun u => match u with | (G5, G6, G7, g3, g4) => []) (fun u => match u with | (G5, G6, G7, g3, g4) => (bL bo B1 B2 B3 B4 G5 G6 G7 ++ ([(h0, .inr (3, [.ref cu, .ref rv, .ref bt, .int (nI bc), .int ho, .int fe])), (bt, .inl (bc9, 10, .inr (.inr (.inr (.inr (fun j => some (bo j))))))), (rv, .inr (5, [.int (nI w), .int (nI h), .ref q1, .ref q2, .ref q3, .ref q4, .ref q5, .ref q6])), (q3, .inl (cy3, 100, .inl g3)), (q4, .inl (cy4, 100, .inl g4))] : va_W))) := by
  intro sz
  refine Met.ofW (cc := cX3_sinkAt) (maxL := 4) (ret := (some .int)) (by decide) rfl ?_
  intro p e s m args below meth c s₁ B hml hv
  obtain ⟨rfl, hsz, hP, hK, hD0, hX⟩ := hv
  have hx := B.exec
  have hb := B.bytes
  have hr := B.returns
  have hts0 := atoms_spec (ws := .code yX3_sinkAt cX3_sinkAt 4 (some .int) :: gw) B.pre
  have hts := fun (w : Cond) (h : w ∈ gw) => hts0 w (List.mem_cons_of_mem _ h)
  have hown : s.vm.findClass RX3 = some m.cls := findClass_of_methodNamed B.named
  have hlocks := B.notSynchronized
  have F : mFix p s m _ c cX3_sinkAt 4 RX3 := ⟨hx, hb, hml, hown, hts⟩
  subst hsz
  have hD := hD0.self (sz := s.heap.size)
  generalize hAe : va_A (bL bo B1 B2 B3 B4 B5 B6 B7 ++ ([(h0, .inr (3, [.ref cu, .ref rv, .ref bt, .int (nI bc), .int ho, .int fe])), (bt, .inl (bc9, 10, .inr (.inr (.inr (.inr (fun j => some (bo j))))))), (rv, .inr (5, [.int (nI w), .int (nI h), .ref q1, .ref q2, .ref q3, .ref q4, .ref q5, .ref q6])), (q3, .inl (cy3, 100, .inl f3)), (q4, .inl (cy4, 100, .inl f4))] : va_W)) s.heap.size = A at hD hX ⊢
  have hA : ∀ q : Nat, s.heap.size ≤ q → A q := fun q h => by rw [← hAe]; exact Or.inr h
  have hS : va_S A s.heap s.heap [] := va_S.rf
  have hl := lv_entry ([.ref h0, .int x, .int y]) (n := 4) (Nat.le_of_ble_eq_true rfl)
  rw [lg_entry_eq]
  generalize (lg_sl ([.ref h0, .int x, .int y]) ++ List.replicate (4 - (lg_sl ([.ref h0, .int x, .int y])).length) Slot.unset).toArray = ls at hl ⊢
  have hl : lv_has ls 4 [(0, .ref h0), (1, .int x), (2, .int y)] := hl
  have hP : va_P D vwCl (bL bo B1 B2 B3 B4 B5 B6 B7 ++ ([(h0, .inr (3, [.ref cu, .ref rv, .ref bt, .int (nI bc), .int ho, .int fe])), (bt, .inl (bc9, 10, .inr (.inr (.inr (.inr (fun j => some (bo j))))))), (rv, .inr (5, [.int (nI w), .int (nI h), .ref q1, .ref q2, .ref q3, .ref q4, .ref q5, .ref q6])), (q3, .inl (cy3, 100, .inl f3)), (q4, .inl (cy4, 100, .inl f4))] : va_W)) s.heap := hP
  refine lv_aload_n hx hb dX3_sinkAt_0 rfl (lv_at hl 0 rfl) ?_
  refine lv_aload_n hx hb dX3_sinkAt_1 rfl (lv_at hl 0 rfl) ?_
  refine va_get (D := D) (ci := 3) (v := .ref rv) (C := RX3) (T := TX3) (N := 6) hx hb hts inG_X3 hown hK hP 10 rfl rfl 1 (by decide) (hts _ kw_1_219) (fun _ h9 => h9) rfl dX3_sinkAt_2 ?_
  refine lv_iload_n hx hb dX3_sinkAt_5 rfl (lv_at hl 1 rfl) ?_
  refine lv_iload_n hx hb dX3_sinkAt_6 rfl (lv_at hl 2 rfl) ?_
  refine mc_Vi (rest := [.ref h0]) (wr := (bL bo B1 B2 B3 B4 B5 B6 B7 ++ ([(h0, .inr (3, [.ref cu, .ref rv, .ref bt, .int (nI bc), .int ho, .int fe])), (bt, .inl (bc9, 10, .inr (.inr (.inr (.inr (fun j => some (bo j))))))), (q3, .inl (cy3, 100, .inl f3))] : va_W))) F hK hP hD hS hA (c_guestAt l D rv q1 q2 q3 q4 q5 q6 cy4 f4 w h x y (by omega) (by omega)) ⟨gk_X3_169.1, gk_X3_169.2, Nat.le_of_ble_eq_true rfl, Nat.le_of_ble_eq_true rfl⟩ [12, 14] [0, 1, 2, 3, 4, 5, 6, 7, 8, 9, 10, 11, 13] [2] ⟨rfl, rfl, rfl, rfl, by decide⟩ rfl xT_move (fun _ _ _ => trivial) 12 rfl rfl rfl hl.1 rfl (Nat.le_of_ble_eq_true rfl) dX3_sinkAt_7 ⟨Nat.le_of_ble_eq_true rfl, Nat.le_of_ble_eq_true rfl⟩ (fun r_1 _ H locs hw hK1 hP hD hS => ?_)
  have hP : va_P D vwCl (bL bo B1 B2 B3 B4 B5 B6 B7 ++ ([(h0, .inr (3, [.ref cu, .ref rv, .ref bt, .int (nI bc), .int ho, .int fe])), (bt, .inl (bc9, 10, .inr (.inr (.inr (.inr (fun j => some (bo j))))))), (q3, .inl (cy3, 100, .inl f3)), (rv, .inr (5, [.int (nI w), .int (nI h), .ref q1, .ref q2, .ref q3, .ref q4, .ref q5, .ref q6])), (q4, .inl (cy4, 100, .inl f4))] : va_W)) H := hP
  have hD : va_D A (bL bo B1 B2 B3 B4 B5 B6 B7 ++ ([(h0, .inr (3, [.ref cu, .ref rv, .ref bt, .int (nI bc), .int ho, .int fe])), (bt, .inl (bc9, 10, .inr (.inr (.inr (.inr (fun j => some (bo j))))))), (q3, .inl (cy3, 100, .inl f3)), (rv, .inr (5, [.int (nI w), .int (nI h), .ref q1, .ref q2, .ref q3, .ref q4, .ref q5, .ref q6])), (q4, .inl (cy4, 100, .inl f4))] : va_W)) := hD
  have hw_2 : r_1 = r_1 := hw
  refine mc_Vq (rest := []) (wr := (bL bo B1 B2 B3 B4 B5 B6 B7 ++ ([(q3, .inl (cy3, 100, .inl f3)), (rv, .inr (5, [.int (nI w), .int (nI h), .ref q1, .ref q2, .ref q3, .ref q4, .ref q5, .ref q6])), (q4, .inl (cy4, 100, .inl f4))] : va_W))) F hK hP hD hS hA (c_boothNumbered l D bo h0 cu rv bt bc9 bc ho fe r_1 (by omega)) ⟨gk_X3_172.1, gk_X3_172.2, Nat.le_of_ble_eq_true rfl, Nat.le_of_ble_eq_true rfl⟩ [10, 11] [0, 1, 2, 3, 4, 5, 6, 7, 8, 9, 12, 13, 14] [0] ⟨rfl, rfl, rfl, rfl, by decide⟩ rfl xT_move (fun _ _ _ => trivial) 10 rfl rfl rfl hl.1 rfl (Nat.le_of_ble_eq_true rfl) dX3_sinkAt_10 ⟨Nat.le_of_ble_eq_true rfl, Nat.le_of_ble_eq_true rfl⟩ (fun r_3 _ H locs hw hK1 hP hD hS => ?_)
  have hP : va_P D vwCl (bL bo B1 B2 B3 B4 B5 B6 B7 ++ ([(q3, .inl (cy3, 100, .inl f3)), (rv, .inr (5, [.int (nI w), .int (nI h), .ref q1, .ref q2, .ref q3, .ref q4, .ref q5, .ref q6])), (q4, .inl (cy4, 100, .inl f4)), (h0, .inr (3, [.ref cu, .ref rv, .ref bt, .int (nI bc), .int ho, .int fe])), (bt, .inl (bc9, 10, .inr (.inr (.inr (.inr (fun j => some (bo j)))))))] : va_W)) H := hP
  have hD : va_D A (bL bo B1 B2 B3 B4 B5 B6 B7 ++ ([(q3, .inl (cy3, 100, .inl f3)), (rv, .inr (5, [.int (nI w), .int (nI h), .ref q1, .ref q2, .ref q3, .ref q4, .ref q5, .ref q6])), (q4, .inl (cy4, 100, .inl f4)), (h0, .inr (3, [.ref cu, .ref rv, .ref bt, .int (nI bc), .int ho, .int fe])), (bt, .inl (bc9, 10, .inr (.inr (.inr (.inr (fun j => some (bo j)))))))] : va_W)) := hD
  have hw_4 : r_3 = none ∨ ∃ j : Nat, j < bc ∧ r_1 = nI j ∧ r_3 = some (bo j) := hw
  rcases hw_4 with hq | ⟨jb_5, hjb_5, xjb_5, hq⟩
  · skip
    subst hq
    refine W.eq (g2 := F0 m 13 ls [.null]) rfl ?_
    refine lv_astore_nN (lv' := [(3, .null), (0, .ref h0), (1, .int x), (2, .int y)]) hx hb dX3_sinkAt_13 rfl hl (by decide) rfl (fun ls hl => ?_)
    refine lv_aload_nN hx hb dX3_sinkAt_14 rfl (lv_at hl 0 rfl) ?_
    refine lv_ifnonnullN hx hb dX3_sinkAt_15 ?_
    refine lv_iconst (v := 0) hx hb dX3_sinkAt_18 (by decide) ?_
    have hP9 := hP.sub (ws' := (bL bo B1 B2 B3 B4 B5 B6 B7 ++ ([(h0, .inr (3, [.ref cu, .ref rv, .ref bt, .int (nI bc), .int ho, .int fe])), (bt, .inl (bc9, 10, .inr (.inr (.inr (.inr (fun j => some (bo j))))))), (rv, .inr (5, [.int (nI w), .int (nI h), .ref q1, .ref q2, .ref q3, .ref q4, .ref q5, .ref q6])), (q3, .inl (cy3, 100, .inl f3)), (q4, .inl (cy4, 100, .inl f4))] : va_W))) [0, 1, 2, 3, 4, 5, 6, 7, 8, 9, 13, 14, 11, 10, 12] rfl
    have hD9 := hD.sub (ws' := (bL bo B1 B2 B3 B4 B5 B6 B7 ++ ([(h0, .inr (3, [.ref cu, .ref rv, .ref bt, .int (nI bc), .int ho, .int fe])), (bt, .inl (bc9, 10, .inr (.inr (.inr (.inr (fun j => some (bo j))))))), (rv, .inr (5, [.int (nI w), .int (nI h), .ref q1, .ref q2, .ref q3, .ref q4, .ref q5, .ref q6])), (q3, .inl (cy3, 100, .inl f3)), (q4, .inl (cy4, 100, .inl f4))] : va_W))) [0, 1, 2, 3, 4, 5, 6, 7, 8, 9, 13, 14, 11, 10, 12] (by decide) rfl
    have hK9 := hK.sub (tys' := []) [] rfl
    refine W.widen (k := 0) (n := 0) (by decide) (by decide) ?_
    exact W.iret (v := 0) hx hb hr (fun t ht hW => ⟨⟨0, (B5, B6, B7, f3, f4), rfl, rfl, by rw [ht]; exact hP9, va_K.moved hW.alike hK9, hD9⟩, hS.F ht⟩) hS.2.2 dX3_sinkAt_19
  · skip
    subst hq
    refine W.eq (g2 := F0 m 13 ls [.ref (bo jb_5)]) rfl ?_
    refine lv_astore_n (lv' := [(3, .ref (bo jb_5)), (0, .ref h0), (1, .int x), (2, .int y)]) hx hb dX3_sinkAt_13 rfl hl (by decide) rfl (fun ls hl => ?_)
    refine lv_aload_n hx hb dX3_sinkAt_14 rfl (lv_at hl 0 rfl) ?_
    refine lv_ifnonnull (tgt := 20) hx hb dX3_sinkAt_15 (by decide) ?_
    refine lv_aload_n hx hb dX3_sinkAt_20 rfl (lv_at hl 1 rfl) ?_
    refine lv_aload_n hx hb dX3_sinkAt_21 rfl (lv_at hl 0 rfl) ?_
    refine lv_iconst (v := 2) hx hb dX3_sinkAt_22 (by decide) ?_
    refine mc_Vv (rest := []) (wr := [(bt, .inl (bc9, 10, .inr (.inr (.inr (.inr (fun j => some (bo j)))))))]) F hK hP hD hS hA (c_lift l D bo B1 B2 B3 B4 B5 B6 B7 h0 cu rv bt bc ho fe q1 q2 q3 q4 q5 q6 cy3 cy4 f3 f4 w h jb_5 2 (by omega) (by omega) (by omega)) ⟨gk_X3_182.1, gk_X3_182.2, Nat.le_of_ble_eq_true rfl, Nat.le_of_ble_eq_true rfl⟩ [0, 1, 2, 3, 4, 5, 6, 7, 8, 9, 13, 11, 10, 12] [14] [1, 2] ⟨rfl, rfl, rfl, rfl, by decide⟩ rfl xT_move (fun _ _ _ => trivial) 13 rfl rfl rfl hl.1 rfl (Nat.le_of_ble_eq_true rfl) dX3_sinkAt_23 ⟨Nat.le_of_ble_eq_true rfl, Nat.le_of_ble_eq_true rfl⟩ (fun u H locs hw hK1 hP hD hS => ?_)
    obtain ⟨G5_6, G6_7, G7_8, g3_9, g4_10⟩ := u
    have hP := hP.sub (ws' := (bL bo B1 B2 B3 B4 G5_6 G6_7 G7_8 ++ ([(bt, .inl (bc9, 10, .inr (.inr (.inr (.inr (fun j => some (bo j))))))), (h0, .inr (3, [.ref cu, .ref rv, .ref bt, .int (nI bc), .int ho, .int fe])), (rv, .inr (5, [.int (nI w), .int (nI h), .ref q1, .ref q2, .ref q3, .ref q4, .ref q5, .ref q6])), (q3, .inl (cy3, 100, .inl g3_9)), (q4, .inl (cy4, 100, .inl g4_10))] : va_W))) [1, 2, 3, 4, 5, 6, 7, 8, 9, 10, 0, 11, 12, 13, 14] rfl
    have hD := hD.sub (ws' := (bL bo B1 B2 B3 B4 G5_6 G6_7 G7_8 ++ ([(bt, .inl (bc9, 10, .inr (.inr (.inr (.inr (fun j => some (bo j))))))), (h0, .inr (3, [.ref cu, .ref rv, .ref bt, .int (nI bc), .int ho, .int fe])), (rv, .inr (5, [.int (nI w), .int (nI h), .ref q1, .ref q2, .ref q3, .ref q4, .ref q5, .ref q6])), (q3, .inl (cy3, 100, .inl g3_9)), (q4, .inl (cy4, 100, .inl g4_10))] : va_W))) [1, 2, 3, 4, 5, 6, 7, 8, 9, 10, 0, 11, 12, 13, 14] (by decide) rfl
    refine lv_iconst (v := 1) hx hb dX3_sinkAt_26 (by decide) ?_
    have hP9 := hP.sub (ws' := (bL bo B1 B2 B3 B4 G5_6 G6_7 G7_8 ++ ([(h0, .inr (3, [.ref cu, .ref rv, .ref bt, .int (nI bc), .int ho, .int fe])), (bt, .inl (bc9, 10, .inr (.inr (.inr (.inr (fun j => some (bo j))))))), (rv, .inr (5, [.int (nI w), .int (nI h), .ref q1, .ref q2, .ref q3, .ref q4, .ref q5, .ref q6])), (q3, .inl (cy3, 100, .inl g3_9)), (q4, .inl (cy4, 100, .inl g4_10))] : va_W))) [0, 1, 2, 3, 4, 5, 6, 7, 8, 9, 11, 10, 12, 13, 14] rfl
    have hD9 := hD.sub (ws' := (bL bo B1 B2 B3 B4 G5_6 G6_7 G7_8 ++ ([(h0, .inr (3, [.ref cu, .ref rv, .ref bt, .int (nI bc), .int ho, .int fe])), (bt, .inl (bc9, 10, .inr (.inr (.inr (.inr (fun j => some (bo j))))))), (rv, .inr (5, [.int (nI w), .int (nI h), .ref q1, .ref q2, .ref q3, .ref q4, .ref q5, .ref q6])), (q3, .inl (cy3, 100, .inl g3_9)), (q4, .inl (cy4, 100, .inl g4_10))] : va_W))) [0, 1, 2, 3, 4, 5, 6, 7, 8, 9, 11, 10, 12, 13, 14] (by decide) rfl
    have hK9 := hK.sub (tys' := []) [] rfl
    refine W.widen (k := 0) (n := 0) (by decide) (by decide) ?_
    exact W.iret (v := 1) hx hb hr (fun t ht hW => ⟨⟨1, (G5_6, G6_7, G7_8, g3_9, g4_10), rfl, rfl, by rw [ht]; exact hP9, va_K.moved hW.alike hK9, hD9⟩, hS.F ht⟩) hS.2.2 dX3_sinkAt_27
theorem dX3_breakMarked_17 : decode cX3_breakMarked 17 = .ok (.iload_n 3, 1) := by decide +kernel
theorem dX3_breakMarked_18 : decode cX3_breakMarked 18 = .ok (.aload_n 0, 1) := by decide +kernel
theorem dX3_breakMarked_19 : decode cX3_breakMarked 19 = .ok (.getfield 21, 3) := by decide +kernel
theorem kw_1_144 : Cond.fieldLink RX3 145 "IceFair$River" "width" "I" ∈ gw := gw_t1 (List.mem_of_getElem? (i := 144) (by decide +kernel)) (by decide +kernel)
theorem dX3_breakMarked_22 : decode cX3_breakMarked 22 = .ok (.getfield 145, 3) := by decide +kernel
theorem dX3_breakMarked_25 : decode cX3_breakMarked 25 = .ok (.if_icmp .ge 30, 3) := by decide +kernel
theorem dX3_breakMarked_28 : decode cX3_breakMarked 28 = .ok (.aload_n 0, 1) := by decide +kernel
theorem dX3_breakMarked_29 : decode cX3_breakMarked 29 = .ok (.getfield 21, 3) := by decide +kernel
theorem dX3_breakMarked_32 : decode cX3_breakMarked 32 = .ok (.iload_n 3, 1) := by decide +kernel
theorem dX3_breakMarked_33 : decode cX3_breakMarked 33 = .ok (.iload_n 2, 1) := by decide +kernel
theorem kw_3_177 : Cond.methodLink RX3 176 yX6_crackIfMarked ∈ gw := gw_t3 (List.mem_of_getElem? (i := 177) (by decide +kernel)) (by decide +kernel)
theorem kw_3_178 : Cond.instanceMethod yX6_crackIfMarked ∈ gw := gw_t3 (List.mem_of_getElem? (i := 178) (by decide +kernel)) (by decide +kernel)
theorem kw_3_179 : Cond.selects RX6 yX6_crackIfMarked yX6_crackIfMarked ∈ gw := gw_t3 (List.mem_of_getElem? (i := 179) (by decide +kernel)) (by decide +kernel)
theorem kw_3_180 : Cond.code yX6_crackIfMarked cX6_crackIfMarked 3 (some .boolean) ∈ gw := gw_t3 (List.mem_of_getElem? (i := 180) (by decide +kernel)) (by decide +kernel)
theorem gk_X3_176 : GoodIn gw (wsV RX3 176 RX6 yX6_crackIfMarked (.code yX6_crackIfMarked cX6_crackIfMarked 3 (some .boolean) :: gw)) ∧ (yX6_crackIfMarked.cls = RX6 ∧ yX6_crackIfMarked.cls ≠ "java/lang/invoke/MethodHandle" ∧ yX6_crackIfMarked.cls ≠ "java/lang/invoke/VarHandle" ∧ (parseMethodDescriptor yX6_crackIfMarked.desc).map (fun d => d.parameters.length) = some 2) := ⟨gi_V kw_3_177 kw_3_178 kw_3_179 kw_1_7 kw_3_180, by decide +kernel⟩
theorem dX3_breakMarked_34 : decode cX3_breakMarked 34 = .ok (.invokevirtual 176, 3) := by decide +kernel
theorem dX3_breakMarked_37 : decode cX3_breakMarked 37 = .ok (.ifCond .eq 12, 3) := by decide +kernel
theorem dX3_breakMarked_49 : decode cX3_breakMarked 49 = .ok (.iinc 3 1, 3) := by decide +kernel
theorem dX3_breakMarked_52 : decode cX3_breakMarked 52 = .ok (.goto (-35), 3) := by decide +kernel
theorem dX3_breakMarked_40 : decode cX3_breakMarked 40 = .ok (.iload_n 1, 1) := by decide +kernel
theorem dX3_breakMarked_41 : decode cX3_breakMarked 41 = .ok (.aload_n 0, 1) := by decide +kernel
theorem dX3_breakMarked_42 : decode cX3_breakMarked 42 = .ok (.iload_n 3, 1) := by decide +kernel
theorem dX3_breakMarked_43 : decode cX3_breakMarked 43 = .ok (.iload_n 2, 1) := by decide +kernel
theorem kw_3_181 : Cond.methodLink RX3 179 yX3_sinkAt ∈ gw := gw_t3 (List.mem_of_getElem? (i := 181) (by decide +kernel)) (by decide +kernel)
theorem kw_3_183 : Cond.instanceMethod yX3_sinkAt ∈ gw := gw_t3 (List.mem_of_getElem? (i := 183) (by decide +kernel)) (by decide +kernel)
theorem ks_1_14 : Cond.selects RX3 yX3_sinkAt yX3_sinkAt ∈ gw := gw_s (y := yX3_sinkAt) (n := 6) (List.mem_append_left _ (List.mem_of_getElem? (i := 14) (by decide +kernel)))
theorem kw_3_184 : Cond.code yX3_sinkAt cX3_sinkAt 4 (some .int) ∈ gw := gw_t3 (List.mem_of_getElem? (i := 184) (by decide +kernel)) (by decide +kernel)
theorem gk_X3_179 : GoodIn gw (wsV RX3 179 RX3 yX3_sinkAt (.code yX3_sinkAt cX3_sinkAt 4 (some .int) :: gw)) ∧ (yX3_sinkAt.cls = RX3 ∧ yX3_sinkAt.cls ≠ "java/lang/invoke/MethodHandle" ∧ yX3_sinkAt.cls ≠ "java/lang/invoke/VarHandle" ∧ (parseMethodDescriptor yX3_sinkAt.desc).map (fun d => d.parameters.length) = some 2) := ⟨gi_V kw_3_181 kw_3_183 ks_1_14 kw_1_6 kw_3_184, by decide +kernel⟩
theorem dX3_breakMarked_44 : decode cX3_breakMarked 44 = .ok (.invokevirtual 179, 3) := by decide +kernel
theorem dX3_breakMarked_47 : decode cX3_breakMarked 47 = .ok (.iadd, 1) := by decide +kernel
theorem dX3_breakMarked_48 : decode cX3_breakMarked 48 = .ok (.istore_n 1, 1) := by decide +kernel
set_option maxHeartbeats 4000000 in
set_option maxRecDepth 100000 in
theorem lp_break_in {p : Program} {l : Launch} {e : Env} {s : State} {m : MethodId} {args : Array Value} {below : List Frame} {meth : Method} {c : Code} {Q : State → Prop} {A : Nat → Prop} {D : va_G} (F : mFix p s m args c cX3_breakMarked 4 RX3) (hA : ∀ q, s.heap.size ≤ q → A q) (bo : Nat → Nat) (B1 : Nat → Int32) (B2 : Nat → Int32) (B3 : Nat → Int32) (B4 : Nat → Int32) (h0 : Nat) (cu : Nat) (rv : Nat) (bt : Nat) (bc9 : ClassId) (bc : Nat) (ho : Int32) (fe : Int32) (q1 : Nat) (q2 : Nat) (q3 : Nat) (q4 : Nat) (q5 : Nat) (q6 : Nat) (cy3 : ClassId) (cy4 : ClassId) (cy5 : ClassId) (cy6 : ClassId) (f6 : Nat → Int32) (w : Nat) (h : Nat) (j : Nat) (hK : va_K D vwCl [(bc9, .object RX0), (cy3, .int), (cy4, .int), (cy5, .boolean), (cy6, .boolean)] s)
    (kx_55 : ∀ (G5 : Nat → Int32) (G6 : Nat → Int32) (G7 : Nat → Int32) (g3 : Nat → Int32) (g4 : Nat → Int32) (g5 : Nat → Int32) (n9 : Int32), ∀ (H : Heap) (locs : List Loc), va_P D vwCl (bL bo B1 B2 B3 B4 G5 G6 G7 ++ ([(h0, .inr (3, [.ref cu, .ref rv, .ref bt, .int (nI bc), .int ho, .int fe])), (bt, .inl (bc9, 10, .inr (.inr (.inr (.inr (fun j => some (bo j))))))), (rv, .inr (5, [.int (nI w), .int (nI h), .ref q1, .ref q2, .ref q3, .ref q4, .ref q5, .ref q6])), (q3, .inl (cy3, 100, .inl g3)), (q4, .inl (cy4, 100, .inl g4)), (q5, .inl (cy5, 100, .inl g5)), (q6, .inl (cy6, 100, .inl f6))] : va_W)) H → va_D A (bL bo B1 B2 B3 B4 G5 G6 G7 ++ ([(h0, .inr (3, [.ref cu, .ref rv, .ref bt, .int (nI bc), .int ho, .int fe])), (bt, .inl (bc9, 10, .inr (.inr (.inr (.inr (fun j => some (bo j))))))), (rv, .inr (5, [.int (nI w), .int (nI h), .ref q1, .ref q2, .ref q3, .ref q4, .ref q5, .ref q6])), (q3, .inl (cy3, 100, .inl g3)), (q4, .inl (cy4, 100, .inl g4)), (q5, .inl (cy5, 100, .inl g5)), (q6, .inl (cy6, 100, .inl f6))] : va_W)) → va_S A s.heap H locs → ∀ ls : Array Slot, lv_has ls 4 [(0, .ref h0), (1, .int n9), (2, .int (nI j))] → W p l e ({ frames := 4, cells := 0, slots := 0, locals := 92 }) s m args below meth c H locs 0 0 Q (F0 m 55 ls [])) :
    ∀ n : Nat, ∀ (G5 : Nat → Int32) (G6 : Nat → Int32) (G7 : Nat → Int32) (g3 : Nat → Int32) (g4 : Nat → Int32) (g5 : Nat → Int32) (n9 : Int32) (i : Nat), (i ≤ w) → (j < h) → (w ≤ 10) → (h ≤ 10) → (bc ≤ 10) → (w - i) < n → ∀ (H : Heap) (locs : List Loc), va_P D vwCl (bL bo B1 B2 B3 B4 G5 G6 G7 ++ ([(h0, .inr (3, [.ref cu, .ref rv, .ref bt, .int (nI bc), .int ho, .int fe])), (bt, .inl (bc9, 10, .inr (.inr (.inr (.inr (fun j => some (bo j))))))), (rv, .inr (5, [.int (nI w), .int (nI h), .ref q1, .ref q2, .ref q3, .ref q4, .ref q5, .ref q6])), (q3, .inl (cy3, 100, .inl g3)), (q4, .inl (cy4, 100, .inl g4)), (q5, .inl (cy5, 100, .inl g5)), (q6, .inl (cy6, 100, .inl f6))] : va_W)) H → va_D A (bL bo B1 B2 B3 B4 G5 G6 G7 ++ ([(h0, .inr (3, [.ref cu, .ref rv, .ref bt, .int (nI bc), .int ho, .int fe])), (bt, .inl (bc9, 10, .inr (.inr (.inr (.inr (fun j => some (bo j))))))), (rv, .inr (5, [.int (nI w), .int (nI h), .ref q1, .ref q2, .ref q3, .ref q4, .ref q5, .ref q6])), (q3, .inl (cy3, 100, .inl g3)), (q4, .inl (cy4, 100, .inl g4)), (q5, .inl (cy5, 100, .inl g5)), (q6, .inl (cy6, 100, .inl f6))] : va_W)) → va_S A s.heap H locs → ∀ ls : Array Slot, lv_has ls 4 [(0, .ref h0), (1, .int n9), (2, .int (nI j)), (3, .int (nI i))] → W p l e ({ frames := 4, cells := 0, slots := 0, locals := 92 }) s m args below meth c H locs 0 0 Q (F0 m 17 ls []) := by
  intro n
  induction n with
  | zero => intro G5 G6 G7 g3 g4 g5 n9 i b1 b2 h3 h4 hbc hn; exact absurd hn (Nat.not_lt_zero _)
  | succ n ih =>
    intro G5 G6 G7 g3 g4 g5 n9 i b1 b2 h3 h4 hbc hn H locs hP hD hS ls hl
    obtain ⟨hx, hb, hml, hown, hts⟩ := id F
    refine lv_iload_n hx hb dX3_breakMarked_17 rfl (lv_at hl 3 rfl) ?_
    refine lv_aload_n hx hb dX3_breakMarked_18 rfl (lv_at hl 0 rfl) ?_
    refine va_get (D := D) (ci := 3) (v := .ref rv) (C := RX3) (T := TX3) (N := 6) hx hb hts inG_X3 hown hK hP 10 rfl rfl 1 (by decide) (hts _ kw_1_219) (fun _ h9 => h9) rfl dX3_breakMarked_19 ?_
    refine va_get (D := D) (ci := 5) (v := .int (nI w)) (C := RX6) (T := TX6) (N := 8) hx hb hts inG_X6 hown hK hP 12 rfl rfl 0 (by decide) (hts _ kw_1_144) (fun _ h9 => h9) rfl dX3_breakMarked_22 ?_
    refine lv_icmp_ge (tgt := 55) hx hb dX3_breakMarked_25 (by decide) (fun c_1 => ?_) (fun c_1 => ?_)
    · skip
      have c_1n : w ≤ i := (nI_leI (by omega) (by omega)).mp c_1
      have c_1 := Int32.not_lt.mpr c_1
      exact kx_55 G5 G6 G7 g3 g4 g5 n9  H locs (hP.sub [0, 1, 2, 3, 4, 5, 6, 7, 8, 9, 10, 11, 12, 13, 14, 15, 16] rfl) (hD.sub [0, 1, 2, 3, 4, 5, 6, 7, 8, 9, 10, 11, 12, 13, 14, 15, 16] (by decide) rfl) hS ls (lv_sub hl [0, 1, 2] rfl)
    · skip
      have c_1n : i < w := nb_le (by omega) (by omega) c_1
      have c_1 := Int32.not_le.mp c_1
      refine lv_aload_n hx hb dX3_breakMarked_28 rfl (lv_at hl 0 rfl) ?_
      refine va_get (D := D) (ci := 3) (v := .ref rv) (C := RX3) (T := TX3) (N := 6) hx hb hts inG_X3 hown hK hP 10 rfl rfl 1 (by decide) (hts _ kw_1_219) (fun _ h9 => h9) rfl dX3_breakMarked_29 ?_
      refine lv_iload_n hx hb dX3_breakMarked_32 rfl (lv_at hl 3 rfl) ?_
      refine lv_iload_n hx hb dX3_breakMarked_33 rfl (lv_at hl 2 rfl) ?_
      refine mc_Vi (rest := []) (wr := (bL bo B1 B2 B3 B4 G5 G6 G7 ++ ([(h0, .inr (3, [.ref cu, .ref rv, .ref bt, .int (nI bc), .int ho, .int fe])), (bt, .inl (bc9, 10, .inr (.inr (.inr (.inr (fun j => some (bo j))))))), (q3, .inl (cy3, 100, .inl g3)), (q4, .inl (cy4, 100, .inl g4))] : va_W))) F hK hP hD hS hA (c_crackIfMarked l D rv q1 q2 q3 q4 q5 q6 cy5 cy6 g5 f6 w h i j (by omega) (by omega) (by omega) (by omega)) ⟨gk_X3_176.1, gk_X3_176.2, Nat.le_of_ble_eq_true rfl, Nat.le_of_ble_eq_true rfl⟩ [12, 15, 16] [0, 1, 2, 3, 4, 5, 6, 7, 8, 9, 10, 11, 13, 14] [3, 4] ⟨rfl, rfl, rfl, rfl, by decide⟩ rfl xT_move (fun _ _ _ => trivial) 12 rfl rfl rfl hl.1 rfl (Nat.le_of_ble_eq_true rfl) dX3_breakMarked_34 ⟨Nat.le_of_ble_eq_true rfl, Nat.le_of_ble_eq_true rfl⟩ (fun r_3 g5_2 H locs hw hK1 hP hD hS => ?_)
      have hP : va_P D vwCl (bL bo B1 B2 B3 B4 G5 G6 G7 ++ ([(h0, .inr (3, [.ref cu, .ref rv, .ref bt, .int (nI bc), .int ho, .int fe])), (bt, .inl (bc9, 10, .inr (.inr (.inr (.inr (fun j => some (bo j))))))), (q3, .inl (cy3, 100, .inl g3)), (q4, .inl (cy4, 100, .inl g4)), (rv, .inr (5, [.int (nI w), .int (nI h), .ref q1, .ref q2, .ref q3, .ref q4, .ref q5, .ref q6])), (q5, .inl (cy5, 100, .inl g5_2)), (q6, .inl (cy6, 100, .inl f6))] : va_W)) H := hP
      have hD : va_D A (bL bo B1 B2 B3 B4 G5 G6 G7 ++ ([(h0, .inr (3, [.ref cu, .ref rv, .ref bt, .int (nI bc), .int ho, .int fe])), (bt, .inl (bc9, 10, .inr (.inr (.inr (.inr (fun j => some (bo j))))))), (q3, .inl (cy3, 100, .inl g3)), (q4, .inl (cy4, 100, .inl g4)), (rv, .inr (5, [.int (nI w), .int (nI h), .ref q1, .ref q2, .ref q3, .ref q4, .ref q5, .ref q6])), (q5, .inl (cy5, 100, .inl g5_2)), (q6, .inl (cy6, 100, .inl f6))] : va_W)) := hD
      have hw_4 : r_3 = 0 ∨ r_3 = 1 := hw
      refine lv_if_eq (tgt := 49) hx hb dX3_breakMarked_37 (by decide) (fun c_5 => ?_) (fun c_5 => ?_)
      · skip
        refine lv_iinc (v := nI (i + 1)) (lv' := [(3, .int (nI (i + 1))), (0, .ref h0), (1, .int n9), (2, .int (nI j))]) hx hb dX3_breakMarked_49 hl (k := 3) rfl (nI_add i 1) (by decide) rfl (fun ls hl => ?_)
        refine lv_goto (tgt := 17) hx hb dX3_breakMarked_52 (by decide) ?_
        exact ih G5 G6 G7 g3 g4 g5_2 n9 (i + 1) (by omega) (by omega) (by omega) (by omega) (by omega) (by omega) H locs (hP.sub [0, 1, 2, 3, 4, 5, 6, 7, 8, 9, 10, 11, 14, 12, 13, 15, 16] rfl) (hD.sub [0, 1, 2, 3, 4, 5, 6, 7, 8, 9, 10, 11, 14, 12, 13, 15, 16] (by decide) rfl) hS ls (lv_sub hl [1, 2, 3, 0] rfl)
      · skip
        refine lv_iload_n hx hb dX3_breakMarked_40 rfl (lv_at hl 1 rfl) ?_
        refine lv_aload_n hx hb dX3_breakMarked_41 rfl (lv_at hl 0 rfl) ?_
        refine lv_iload_n hx hb dX3_breakMarked_42 rfl (lv_at hl 3 rfl) ?_
        refine lv_iload_n hx hb dX3_breakMarked_43 rfl (lv_at hl 2 rfl) ?_
        refine mc_Vi (rest := [.int n9]) (wr := [(q5, .inl (cy5, 100, .inl g5_2)), (q6, .inl (cy6, 100, .inl f6))]) F hK hP hD hS hA (c_sinkAt l D bo B1 B2 B3 B4 G5 G6 G7 h0 cu rv bt bc9 bc ho fe q1 q2 q3 q4 q5 q6 cy3 cy4 g3 g4 w h (nI i) (nI j) (by omega) (by omega) (by omega)) ⟨gk_X3_179.1, gk_X3_179.2, Nat.le_of_ble_eq_true rfl, Nat.le_of_ble_eq_true rfl⟩ [0, 1, 2, 3, 4, 5, 6, 7, 8, 9, 10, 11, 14, 12, 13] [15, 16] [0, 1, 2] ⟨rfl, rfl, rfl, rfl, by decide⟩ rfl xT_move (fun _ _ _ => trivial) 10 rfl rfl rfl hl.1 rfl (Nat.le_of_ble_eq_true rfl) dX3_breakMarked_44 ⟨Nat.le_of_ble_eq_true rfl, Nat.le_of_ble_eq_true rfl⟩ (fun r_11 u H locs hw hK1 hP hD hS => ?_)
        obtain ⟨G5_6, G6_7, G7_8, g3_9, g4_10⟩ := u
        have hP := hP.sub (ws' := (bL bo B1 B2 B3 B4 G5_6 G6_7 G7_8 ++ ([(q5, .inl (cy5, 100, .inl g5_2)), (q6, .inl (cy6, 100, .inl f6)), (h0, .inr (3, [.ref cu, .ref rv, .ref bt, .int (nI bc), .int ho, .int fe])), (bt, .inl (bc9, 10, .inr (.inr (.inr (.inr (fun j => some (bo j))))))), (rv, .inr (5, [.int (nI w), .int (nI h), .ref q1, .ref q2, .ref q3, .ref q4, .ref q5, .ref q6])), (q3, .inl (cy3, 100, .inl g3_9)), (q4, .inl (cy4, 100, .inl g4_10))] : va_W))) [2, 3, 4, 5, 6, 7, 8, 9, 10, 11, 0, 1, 12, 13, 14, 15, 16] rfl
        have hD := hD.sub (ws' := (bL bo B1 B2 B3 B4 G5_6 G6_7 G7_8 ++ ([(q5, .inl (cy5, 100, .inl g5_2)), (q6, .inl (cy6, 100, .inl f6)), (h0, .inr (3, [.ref cu, .ref rv, .ref bt, .int (nI bc), .int ho, .int fe])), (bt, .inl (bc9, 10, .inr (.inr (.inr (.inr (fun j => some (bo j))))))), (rv, .inr (5, [.int (nI w), .int (nI h), .ref q1, .ref q2, .ref q3, .ref q4, .ref q5, .ref q6])), (q3, .inl (cy3, 100, .inl g3_9)), (q4, .inl (cy4, 100, .inl g4_10))] : va_W))) [2, 3, 4, 5, 6, 7, 8, 9, 10, 11, 0, 1, 12, 13, 14, 15, 16] (by decide) rfl
        have hw_12 : r_11 = r_11 := hw
        refine lv_iadd hx hb dX3_breakMarked_47 ?_
        refine lv_topi (fun z_13 ez_13 => ?_)
        refine lv_istore_n (lv' := [(1, .int z_13), (0, .ref h0), (2, .int (nI j)), (3, .int (nI i))]) hx hb dX3_breakMarked_48 rfl hl (by decide) rfl (fun ls hl => ?_)
        refine lv_iinc (v := nI (i + 1)) (lv' := [(3, .int (nI (i + 1))), (1, .int z_13), (0, .ref h0), (2, .int (nI j))]) hx hb dX3_breakMarked_49 hl (k := 3) rfl (nI_add i 1) (by decide) rfl (fun ls hl => ?_)
        refine lv_goto (tgt := 17) hx hb dX3_breakMarked_52 (by decide) ?_
        exact ih G5_6 G6_7 G7_8 g3_9 g4_10 g5_2 z_13 (i + 1) (by omega) (by omega) (by omega) (by omega) (by omega) (by omega) H locs (hP.sub [0, 1, 2, 3, 4, 5, 6, 7, 8, 9, 12, 13, 14, 15, 16, 10, 11] rfl) (hD.sub [0, 1, 2, 3, 4, 5, 6, 7, 8, 9, 12, 13, 14, 15, 16, 10, 11] (by decide) rfl) hS ls (lv_sub hl [2, 1, 3, 0] rfl)
theorem dX3_breakMarked_4 : decode cX3_breakMarked 4 = .ok (.iload_n 2, 1) := by decide +kernel
theorem dX3_breakMarked_5 : decode cX3_breakMarked 5 = .ok (.aload_n 0, 1) := by decide +kernel
theorem dX3_breakMarked_6 : decode cX3_breakMarked 6 = .ok (.getfield 21, 3) := by decide +kernel
theorem kw_1_147 : Cond.fieldLink RX3 142 "IceFair$River" "height" "I" ∈ gw := gw_t1 (List.mem_of_getElem? (i := 147) (by decide +kernel)) (by decide +kernel)
theorem dX3_breakMarked_9 : decode cX3_breakMarked 9 = .ok (.getfield 142, 3) := by decide +kernel
theorem dX3_breakMarked_12 : decode cX3_breakMarked 12 = .ok (.if_icmp .ge 49, 3) := by decide +kernel
theorem dX3_breakMarked_15 : decode cX3_breakMarked 15 = .ok (.iconst 0, 1) := by decide +kernel
theorem dX3_breakMarked_16 : decode cX3_breakMarked 16 = .ok (.istore_n 3, 1) := by decide +kernel
theorem dX3_breakMarked_55 : decode cX3_breakMarked 55 = .ok (.iinc 2 1, 3) := by decide +kernel
theorem dX3_breakMarked_58 : decode cX3_breakMarked 58 = .ok (.goto (-54), 3) := by decide +kernel
set_option maxHeartbeats 4000000 in
set_option maxRecDepth 100000 in
theorem lp_break_out {p : Program} {l : Launch} {e : Env} {s : State} {m : MethodId} {args : Array Value} {below : List Frame} {meth : Method} {c : Code} {Q : State → Prop} {A : Nat → Prop} {D : va_G} (F : mFix p s m args c cX3_breakMarked 4 RX3) (hA : ∀ q, s.heap.size ≤ q → A q) (bo : Nat → Nat) (B1 : Nat → Int32) (B2 : Nat → Int32) (B3 : Nat → Int32) (B4 : Nat → Int32) (h0 : Nat) (cu : Nat) (rv : Nat) (bt : Nat) (bc9 : ClassId) (bc : Nat) (ho : Int32) (fe : Int32) (q1 : Nat) (q2 : Nat) (q3 : Nat) (q4 : Nat) (q5 : Nat) (q6 : Nat) (cy3 : ClassId) (cy4 : ClassId) (cy5 : ClassId) (cy6 : ClassId) (f6 : Nat → Int32) (w : Nat) (h : Nat) (hK : va_K D vwCl [(bc9, .object RX0), (cy3, .int), (cy4, .int), (cy5, .boolean), (cy6, .boolean)] s)
    (kx_61 : ∀ (G5 : Nat → Int32) (G6 : Nat → Int32) (G7 : Nat → Int32) (g3 : Nat → Int32) (g4 : Nat → Int32) (g5 : Nat → Int32) (n9 : Int32), ∀ (H : Heap) (locs : List Loc), va_P D vwCl (bL bo B1 B2 B3 B4 G5 G6 G7 ++ ([(h0, .inr (3, [.ref cu, .ref rv, .ref bt, .int (nI bc), .int ho, .int fe])), (bt, .inl (bc9, 10, .inr (.inr (.inr (.inr (fun j => some (bo j))))))), (rv, .inr (5, [.int (nI w), .int (nI h), .ref q1, .ref q2, .ref q3, .ref q4, .ref q5, .ref q6])), (q3, .inl (cy3, 100, .inl g3)), (q4, .inl (cy4, 100, .inl g4)), (q5, .inl (cy5, 100, .inl g5)), (q6, .inl (cy6, 100, .inl f6))] : va_W)) H → va_D A (bL bo B1 B2 B3 B4 G5 G6 G7 ++ ([(h0, .inr (3, [.ref cu, .ref rv, .ref bt, .int (nI bc), .int ho, .int fe])), (bt, .inl (bc9, 10, .inr (.inr (.inr (.inr (fun j => some (bo j))))))), (rv, .inr (5, [.int (nI w), .int (nI h), .ref q1, .ref q2, .ref q3, .ref q4, .ref q5, .ref q6])), (q3, .inl (cy3, 100, .inl g3)), (q4, .inl (cy4, 100, .inl g4)), (q5, .inl (cy5, 100, .inl g5)), (q6, .inl (cy6, 100, .inl f6))] : va_W)) → va_S A s.heap H locs → ∀ ls : Array Slot, lv_has ls 4 [(1, .int n9)] → W p l e ({ frames := 4, cells := 0, slots := 0, locals := 92 }) s m args below meth c H locs 0 0 Q (F0 m 61 ls [])) :
    ∀ n : Nat, ∀ (G5 : Nat → Int32) (G6 : Nat → Int32) (G7 : Nat → Int32) (g3 : Nat → Int32) (g4 : Nat → Int32) (g5 : Nat → Int32) (n9 : Int32) (j : Nat), (j ≤ h) → (w ≤ 10) → (h ≤ 10) → (bc ≤ 10) → (h - j) < n → ∀ (H : Heap) (locs : List Loc), va_P D vwCl (bL bo B1 B2 B3 B4 G5 G6 G7 ++ ([(h0, .inr (3, [.ref cu, .ref rv, .ref bt, .int (nI bc), .int ho, .int fe])), (bt, .inl (bc9, 10, .inr (.inr (.inr (.inr (fun j => some (bo j))))))), (rv, .inr (5, [.int (nI w), .int (nI h), .ref q1, .ref q2, .ref q3, .ref q4, .ref q5, .ref q6])), (q3, .inl (cy3, 100, .inl g3)), (q4, .inl (cy4, 100, .inl g4)), (q5, .inl (cy5, 100, .inl g5)), (q6, .inl (cy6, 100, .inl f6))] : va_W)) H → va_D A (bL bo B1 B2 B3 B4 G5 G6 G7 ++ ([(h0, .inr (3, [.ref cu, .ref rv, .ref bt, .int (nI bc), .int ho, .int fe])), (bt, .inl (bc9, 10, .inr (.inr (.inr (.inr (fun j => some (bo j))))))), (rv, .inr (5, [.int (nI w), .int (nI h), .ref q1, .ref q2, .ref q3, .ref q4, .ref q5, .ref q6])), (q3, .inl (cy3, 100, .inl g3)), (q4, .inl (cy4, 100, .inl g4)), (q5, .inl (cy5, 100, .inl g5)), (q6, .inl (cy6, 100, .inl f6))] : va_W)) → va_S A s.heap H locs → ∀ ls : Array Slot, lv_has ls 4 [(0, .ref h0), (1, .int n9), (2, .int (nI j))] → W p l e ({ frames := 4, cells := 0, slots := 0, locals := 92 }) s m args below meth c H locs 0 0 Q (F0 m 4 ls []) := by
  intro n
  induction n with
  | zero => intro G5 G6 G7 g3 g4 g5 n9 j b1 h3 h4 hbc hn; exact absurd hn (Nat.not_lt_zero _)
  | succ n ih =>
    intro G5 G6 G7 g3 g4 g5 n9 j b1 h3 h4 hbc hn H locs hP hD hS ls hl
    obtain ⟨hx, hb, hml, hown, hts⟩ := id F
    refine lv_iload_n hx hb dX3_breakMarked_4 rfl (lv_at hl 2 rfl) ?_
    refine lv_aload_n hx hb dX3_breakMarked_5 rfl (lv_at hl 0 rfl) ?_
    refine va_get (D := D) (ci := 3) (v := .ref rv) (C := RX3) (T := TX3) (N := 6) hx hb hts inG_X3 hown hK hP 10 rfl rfl 1 (by decide) (hts _ kw_1_219) (fun _ h9 => h9) rfl dX3_breakMarked_6 ?_
    refine va_get (D := D) (ci := 5) (v := .int (nI h)) (C := RX6) (T := TX6) (N := 8) hx hb hts inG_X6 hown hK hP 12 rfl rfl 1 (by decide) (hts _ kw_1_147) (fun _ h9 => h9) rfl dX3_breakMarked_9 ?_
    refine lv_icmp_ge (tgt := 61) hx hb dX3_breakMarked_12 (by decide) (fun c_1 => ?_) (fun c_1 => ?_)
    · skip
      have c_1n : h ≤ j := (nI_leI (by omega) (by omega)).mp c_1
      have c_1 := Int32.not_lt.mpr c_1
      exact kx_61 G5 G6 G7 g3 g4 g5 n9  H locs (hP.sub [0, 1, 2, 3, 4, 5, 6, 7, 8, 9, 10, 11, 12, 13, 14, 15, 16] rfl) (hD.sub [0, 1, 2, 3, 4, 5, 6, 7, 8, 9, 10, 11, 12, 13, 14, 15, 16] (by decide) rfl) hS ls (lv_sub hl [1] rfl)
    · skip
      have c_1n : j < h := nb_le (by omega) (by omega) c_1
      have c_1 := Int32.not_le.mp c_1
      refine lv_iconst (v := 0) hx hb dX3_breakMarked_15 (by decide) ?_
      refine lv_istore_n (lv' := [(3, .int 0), (0, .ref h0), (1, .int n9), (2, .int (nI j))]) hx hb dX3_breakMarked_16 rfl hl (by decide) rfl (fun ls hl => ?_)
      refine lp_break_in F hA bo B1 B2 B3 B4 h0 cu rv bt bc9 bc ho fe q1 q2 q3 q4 q5 q6 cy3 cy4 cy5 cy6 f6 w h j (hK.sub [0, 1, 2, 3, 4] rfl) (fun G5_2 G6_3 G7_4 g3_5 g4_6 g5_7 n9_8  H locs hP hD hS ls hl => ?_) _ G5 G6 G7 g3 g4 g5 n9 0 (by omega) (by omega) (by omega) (by omega) (by omega) (Nat.lt_succ_self _) _ _ (hP.sub [0, 1, 2, 3, 4, 5, 6, 7, 8, 9, 10, 11, 12, 13, 14, 15, 16] rfl) (hD.sub [0, 1, 2, 3, 4, 5, 6, 7, 8, 9, 10, 11, 12, 13, 14, 15, 16] (by decide) rfl) hS ls (lv_sub hl [1, 2, 3, 0] rfl)
      refine lv_iinc (v := nI (j + 1)) (lv' := [(2, .int (nI (j + 1))), (0, .ref h0), (1, .int n9_8)]) hx hb dX3_breakMarked_55 hl (k := 2) rfl (nI_add j 1) (by decide) rfl (fun ls hl => ?_)
      refine lv_goto (tgt := 4) hx hb dX3_breakMarked_58 (by decide) ?_
      exact ih G5_2 G6_3 G7_4 g3_5 g4_6 g5_7 n9_8 (j + 1) (by omega) (by omega) (by omega) (by omega) (by omega) H locs (hP.sub [0, 1, 2, 3, 4, 5, 6, 7, 8, 9, 10, 11, 12, 13, 14, 15, 16] rfl) (hD.sub [0, 1, 2, 3, 4, 5, 6, 7, 8, 9, 10, 11, 12, 13, 14, 15, 16] (by decide) rfl) hS ls (lv_sub hl [1, 2, 0] rfl)
theorem dX3_breakMarked_0 : decode cX3_breakMarked 0 = .ok (.iconst 0, 1) := by decide +kernel
theorem dX3_breakMarked_1 : decode cX3_breakMarked 1 = .ok (.istore_n 1, 1) := by decide +kernel
theorem dX3_breakMarked_2 : decode cX3_breakMarked 2 = .ok (.iconst 0, 1) := by decide +kernel
theorem dX3_breakMarked_3 : decode cX3_breakMarked 3 = .ok (.istore_n 2, 1) := by decide +kernel
theorem dX3_breakMarked_61 : decode cX3_breakMarked 61 = .ok (.iload_n 1, 1) := by decide +kernel
theorem dX3_breakMarked_62 : decode cX3_breakMarked 62 = .ok (.ireturn, 1) := by decide +kernel
set_option maxHeartbeats 4000000 in
set_option maxRecDepth 100000 in
theorem c_breakMarked (l : Launch) (D : va_G) (bo : Nat → Nat) (B1 : Nat → Int32) (B2 : Nat → Int32) (B3 : Nat → Int32) (B4 : Nat → Int32) (h0 : Nat) (cu : Nat) (rv : Nat) (bt : Nat) (bc9 : ClassId) (bc : Nat) (ho : Int32) (fe : Int32) (q1 : Nat) (q2 : Nat) (q3 : Nat) (q4 : Nat) (q5 : Nat) (q6 : Nat) (cy3 : ClassId) (cy4 : ClassId) (cy5 : ClassId) (cy6 : ClassId) (f6 : Nat → Int32) (w : Nat) (h : Nat) (B5 : Nat → Int32) (B6 : Nat → Int32) (B7 : Nat → Int32) (f3 : Nat → Int32) (f4 : Nat → Int32) (f5 : Nat → Int32) (hbc : bc ≤ 10) (h3 : w ≤ 10) (h4 : h ≤ 10) : cI l yX3_breakMarked (.code yX3_breakMarked cX3_breakMarked 4 (some .int)) ({ frames := 4, cells := 0, slots := 0, locals := 92 }) D [(bc9, .object RX0), (cy3, .int), (cy4, .int), (cy5, .boolean), (cy6, .boolean)] (bL bo B1 B2 B3 B4 B5 B6 B7 ++ ([(h0, .inr (3, [.ref cu, .ref rv, .ref bt, .int (nI bc), .int ho, .int fe])), (bt, .inl (bc9, 10, .inr (.inr (.inr (.inr (fun j => some (bo j))))))), (rv, .inr (5, [.int (nI w), .int (nI h), .ref q1, .ref q2, .ref q3, .ref q4, .ref q5, .ref q6])), (q3, .inl (cy3, 100, .inl f3)), (q4, .inl (cy4, 100, .inl f4)), (q5, .inl (cy5, 100, .inl f5)), (q6, .inl (cy6, 100, .inl f6))] : va_W)) xT [.ref h0] (S := (Nat → Int32) × (Nat → Int32) × (Nat → Int32) × (Nat → Int32) × (Nat → Int32) × (Nat → Int32)) (fun r u => match u with | (G5, G6, G7, g3, g4, g5) => r = r) (fun u => match u with | (G5, G6, G7, g3, g4, g5) => []) (fun u => match u with | (G5, G6, G7, g3, g4, g5) => (bL bo B1 B2 B3 B4 G5 G6 G7 ++ ([(h0, .inr (3, [.ref cu, .ref rv, .ref bt, .int (nI bc), .int ho, .int fe])), (bt, .inl (bc9, 10, .inr (.inr (.inr (.inr (fun j => some (bo j))))))), (rv, .inr (5, [.int (nI w), .int (nI h), .ref q1, .ref q2, .ref q3, .ref q4, .ref q5, .ref q6])), (q3, .inl (cy3, 100, .inl g3)), (q4, .inl (cy4, 100, .inl g4)), (q5, .inl (cy5, 100, .inl g5)), (q6, .inl (cy6, 100, .inl f6))] : va_W))) := by
  intro sz
  refine Met.ofW (cc := cX3_breakMarked) (maxL := 4) (ret := (some .int)) (by decide) rfl ?_
  intro p e s m args below meth c s₁ B hml hv
  obtain ⟨rfl, hsz, hP, hK, hD0, hX⟩ := hv
  have hx := B.exec
  have hb := B.bytes
  have hr := B.returns
  have hts0 := atoms_spec (ws := .code yX3_breakMarked cX3_breakMarked 4 (some .int) :: gw) B.pre
  have hts := fun (w : Cond) (h : w ∈ gw) => hts0 w (List.mem_cons_of_mem _ h)
  have hown : s.vm.findClass RX3 = some m.cls := findClass_of_methodNamed B.named
  have hlocks := B.notSynchronized
  have F : mFix p s m _ c cX3_breakMarked 4 RX3 := ⟨hx, hb, hml, hown, hts⟩
  subst hsz
  have hD := hD0.self (sz := s.heap.size)
  generalize hAe : va_A (bL bo B1 B2 B3 B4 B5 B6 B7 ++ ([(h0, .inr (3, [.ref cu, .ref rv, .ref bt, .int (nI bc), .int ho, .int fe])), (bt, .inl (bc9, 10, .inr (.inr (.inr (.inr (fun j => some (bo j))))))), (rv, .inr (5, [.int (nI w), .int (nI h), .ref q1, .ref q2, .ref q3, .ref q4, .ref q5, .ref q6])), (q3, .inl (cy3, 100, .inl f3)), (q4, .inl (cy4, 100, .inl f4)), (q5, .inl (cy5, 100, .inl f5)), (q6, .inl (cy6, 100, .inl f6))] : va_W)) s.heap.size = A at hD hX ⊢
  have hA : ∀ q : Nat, s.heap.size ≤ q → A q := fun q h => by rw [← hAe]; exact Or.inr h
  have hS : va_S A s.heap s.heap [] := va_S.rf
  have hl := lv_entry ([.ref h0]) (n := 4) (Nat.le_of_ble_eq_true rfl)
  rw [lg_entry_eq]
  generalize (lg_sl ([.ref h0]) ++ List.replicate (4 - (lg_sl ([.ref h0])).length) Slot.unset).toArray = ls at hl ⊢
  have hl : lv_has ls 4 [(0, .ref h0)] := hl
  have hP : va_P D vwCl (bL bo B1 B2 B3 B4 B5 B6 B7 ++ ([(h0, .inr (3, [.ref cu, .ref rv, .ref bt, .int (nI bc), .int ho, .int fe])), (bt, .inl (bc9, 10, .inr (.inr (.inr (.inr (fun j => some (bo j))))))), (rv, .inr (5, [.int (nI w), .int (nI h), .ref q1, .ref q2, .ref q3, .ref q4, .ref q5, .ref q6])), (q3, .inl (cy3, 100, .inl f3)), (q4, .inl (cy4, 100, .inl f4)), (q5, .inl (cy5, 100, .inl f5)), (q6, .inl (cy6, 100, .inl f6))] : va_W)) s.heap := hP
  refine lv_iconst (v := 0) hx hb dX3_breakMarked_0 (by decide) ?_
  refine lv_istore_n (lv' := [(1, .int 0), (0, .ref h0)]) hx hb dX3_breakMarked_1 rfl hl (by decide) rfl (fun ls hl => ?_)
  refine lv_iconst (v := 0) hx hb dX3_breakMarked_2 (by decide) ?_
  refine lv_istore_n (lv' := [(2, .int 0), (1, .int 0), (0, .ref h0)]) hx hb dX3_breakMarked_3 rfl hl (by decide) rfl (fun ls hl => ?_)
  refine lp_break_out F hA bo B1 B2 B3 B4 h0 cu rv bt bc9 bc ho fe q1 q2 q3 q4 q5 q6 cy3 cy4 cy5 cy6 f6 w h (hK.sub [0, 1, 2, 3, 4] rfl) (fun G5_1 G6_2 G7_3 g3_4 g4_5 g5_6 n9_7  H locs hP hD hS ls hl => ?_) _ B5 B6 B7 f3 f4 f5 0 0 (by omega) (by omega) (by omega) (by omega) (Nat.lt_succ_self _) _ _ (hP.sub [0, 1, 2, 3, 4, 5, 6, 7, 8, 9, 10, 11, 12, 13, 14, 15, 16] rfl) (hD.sub [0, 1, 2, 3, 4, 5, 6, 7, 8, 9, 10, 11, 12, 13, 14, 15, 16] (by decide) rfl) hS ls (lv_sub hl [2, 1, 0] rfl)
  refine lv_iload_n hx hb dX3_breakMarked_61 rfl (lv_at hl 0 rfl) ?_
  have hP9 := hP.sub (ws' := (bL bo B1 B2 B3 B4 G5_1 G6_2 G7_3 ++ ([(h0, .inr (3, [.ref cu, .ref rv, .ref bt, .int (nI bc), .int ho, .int fe])), (bt, .inl (bc9, 10, .inr (.inr (.inr (.inr (fun j => some (bo j))))))), (rv, .inr (5, [.int (nI w), .int (nI h), .ref q1, .ref q2, .ref q3, .ref q4, .ref q5, .ref q6])), (q3, .inl (cy3, 100, .inl g3_4)), (q4, .inl (cy4, 100, .inl g4_5)), (q5, .inl (cy5, 100, .inl g5_6)), (q6, .inl (cy6, 100, .inl f6))] : va_W))) [0, 1, 2, 3, 4, 5, 6, 7, 8, 9, 10, 11, 12, 13, 14, 15, 16] rfl
  have hD9 := hD.sub (ws' := (bL bo B1 B2 B3 B4 G5_1 G6_2 G7_3 ++ ([(h0, .inr (3, [.ref cu, .ref rv, .ref bt, .int (nI bc), .int ho, .int fe])), (bt, .inl (bc9, 10, .inr (.inr (.inr (.inr (fun j => some (bo j))))))), (rv, .inr (5, [.int (nI w), .int (nI h), .ref q1, .ref q2, .ref q3, .ref q4, .ref q5, .ref q6])), (q3, .inl (cy3, 100, .inl g3_4)), (q4, .inl (cy4, 100, .inl g4_5)), (q5, .inl (cy5, 100, .inl g5_6)), (q6, .inl (cy6, 100, .inl f6))] : va_W))) [0, 1, 2, 3, 4, 5, 6, 7, 8, 9, 10, 11, 12, 13, 14, 15, 16] (by decide) rfl
  have hK9 := hK.sub (tys' := []) [] rfl
  refine W.widen (k := 0) (n := 0) (by decide) (by decide) ?_
  exact W.iret (v := n9_7) hx hb hr (fun t ht hW => ⟨⟨n9_7, (G5_1, G6_2, G7_3, g3_4, g4_5, g5_6), rfl, rfl, by rw [ht]; exact hP9, va_K.moved hW.alike hK9, hD9⟩, hS.F ht⟩) hS.2.2 dX3_breakMarked_62
theorem dX3_passHour_39 : decode cX3_passHour 39 = .ok (.iload_n 3, 1) := by decide +kernel
theorem dX3_passHour_40 : decode cX3_passHour 40 = .ok (.aload_n 0, 1) := by decide +kernel
theorem dX3_passHour_41 : decode cX3_passHour 41 = .ok (.getfield 21, 3) := by decide +kernel
theorem dX3_passHour_44 : decode cX3_passHour 44 = .ok (.getfield 145, 3) := by decide +kernel
theorem dX3_passHour_47 : decode cX3_passHour 47 = .ok (.if_icmp .ge 26, 3) := by decide +kernel
theorem dX3_passHour_50 : decode cX3_passHour 50 = .ok (.aload_n 0, 1) := by decide +kernel
theorem dX3_passHour_51 : decode cX3_passHour 51 = .ok (.getfield 21, 3) := by decide +kernel
theorem dX3_passHour_54 : decode cX3_passHour 54 = .ok (.iload_n 3, 1) := by decide +kernel
theorem dX3_passHour_55 : decode cX3_passHour 55 = .ok (.iload_n 2, 1) := by decide +kernel
theorem dX3_passHour_56 : decode cX3_passHour 56 = .ok (.iload_n 1, 1) := by decide +kernel
theorem dX3_passHour_57 : decode cX3_passHour 57 = .ok (.aload_n 0, 1) := by decide +kernel
theorem dX3_passHour_58 : decode cX3_passHour 58 = .ok (.iload_n 3, 1) := by decide +kernel
theorem dX3_passHour_59 : decode cX3_passHour 59 = .ok (.iload_n 2, 1) := by decide +kernel
theorem kw_3_138 : Cond.methodLink RX3 148 yX3_meltAt ∈ gw := gw_t3 (List.mem_of_getElem? (i := 138) (by decide +kernel)) (by decide +kernel)
theorem kw_3_140 : Cond.instanceMethod yX3_meltAt ∈ gw := gw_t3 (List.mem_of_getElem? (i := 140) (by decide +kernel)) (by decide +kernel)
theorem ks_1_11 : Cond.selects RX3 yX3_meltAt yX3_meltAt ∈ gw := gw_s (y := yX3_meltAt) (n := 6) (List.mem_append_left _ (List.mem_of_getElem? (i := 11) (by decide +kernel)))
theorem kw_3_141 : Cond.code yX3_meltAt cX3_meltAt 4 (some .int) ∈ gw := gw_t3 (List.mem_of_getElem? (i := 141) (by decide +kernel)) (by decide +kernel)
theorem gk_X3_148 : GoodIn gw (wsV RX3 148 RX3 yX3_meltAt (.code yX3_meltAt cX3_meltAt 4 (some .int) :: gw)) ∧ (yX3_meltAt.cls = RX3 ∧ yX3_meltAt.cls ≠ "java/lang/invoke/MethodHandle" ∧ yX3_meltAt.cls ≠ "java/lang/invoke/VarHandle" ∧ (parseMethodDescriptor yX3_meltAt.desc).map (fun d => d.parameters.length) = some 2) := ⟨gi_V kw_3_138 kw_3_140 ks_1_11 kw_1_6 kw_3_141, by decide +kernel⟩
theorem dX3_passHour_60 : decode cX3_passHour 60 = .ok (.invokevirtual 148, 3) := by decide +kernel
theorem dX3_passHour_63 : decode cX3_passHour 63 = .ok (.isub, 1) := by decide +kernel
theorem kw_3_159 : Cond.methodLink RX3 151 yX6_thicken ∈ gw := gw_t3 (List.mem_of_getElem? (i := 159) (by decide +kernel)) (by decide +kernel)
theorem kw_3_160 : Cond.instanceMethod yX6_thicken ∈ gw := gw_t3 (List.mem_of_getElem? (i := 160) (by decide +kernel)) (by decide +kernel)
theorem kw_3_161 : Cond.selects RX6 yX6_thicken yX6_thicken ∈ gw := gw_t3 (List.mem_of_getElem? (i := 161) (by decide +kernel)) (by decide +kernel)
theorem kw_3_162 : Cond.code yX6_thicken cX6_thicken 5 none ∈ gw := gw_t3 (List.mem_of_getElem? (i := 162) (by decide +kernel)) (by decide +kernel)
theorem gk_X3_151 : GoodIn gw (wsV RX3 151 RX6 yX6_thicken (.code yX6_thicken cX6_thicken 5 none :: gw)) ∧ (yX6_thicken.cls = RX6 ∧ yX6_thicken.cls ≠ "java/lang/invoke/MethodHandle" ∧ yX6_thicken.cls ≠ "java/lang/invoke/VarHandle" ∧ (parseMethodDescriptor yX6_thicken.desc).map (fun d => d.parameters.length) = some 3) := ⟨gi_V kw_3_159 kw_3_160 kw_3_161 kw_1_7 kw_3_162, by decide +kernel⟩
theorem dX3_passHour_64 : decode cX3_passHour 64 = .ok (.invokevirtual 151, 3) := by decide +kernel
theorem dX3_passHour_67 : decode cX3_passHour 67 = .ok (.iinc 3 1, 3) := by decide +kernel
theorem dX3_passHour_70 : decode cX3_passHour 70 = .ok (.goto (-31), 3) := by decide +kernel
set_option maxHeartbeats 4000000 in
set_option maxRecDepth 100000 in
theorem lp_hour_in {p : Program} {l : Launch} {e : Env} {s : State} {m : MethodId} {args : Array Value} {below : List Frame} {meth : Method} {c : Code} {Q : State → Prop} {A : Nat → Prop} {D : va_G} (F : mFix p s m args c cX3_passHour 4 RX3) (hA : ∀ q, s.heap.size ≤ q → A q) (bo : Nat → Nat) (B1 : Nat → Int32) (B2 : Nat → Int32) (B3 : Nat → Int32) (B4 : Nat → Int32) (h0 : Nat) (cu : Nat) (rv : Nat) (bt : Nat) (bc9 : ClassId) (bc : Nat) (fe : Int32) (cu1 : Nat) (cu2 : Nat) (cu3 : Nat) (cu4 : Nat) (cc1 : ClassId) (cf1 : Nat → Int32) (sc : Int32) (to : Int32) (q1 : Nat) (q2 : Nat) (q3 : Nat) (q4 : Nat) (q5 : Nat) (q6 : Nat) (cy1 : ClassId) (cy2 : ClassId) (cy3 : ClassId) (cy4 : ClassId) (cy5 : ClassId) (cy6 : ClassId) (w : Nat) (h : Nat) (co : Int32) (ho1 : Int32) (B5 : Nat → Int32) (B6 : Nat → Int32) (B7 : Nat → Int32) (f3 : Nat → Int32) (f4 : Nat → Int32) (f5 : Nat → Int32) (f6 : Nat → Int32) (j : Nat) (hK : va_K D vwCl [(bc9, .object RX0), (cc1, .int), (cy1, .int), (cy2, .int), (cy3, .int), (cy4, .int), (cy5, .boolean), (cy6, .boolean)] s)
    (kx_73 : ∀ (g1 : Nat → Int32) (g2 : Nat → Int32), ∀ (H : Heap) (locs : List Loc), va_P D vwCl (bL bo B1 B2 B3 B4 B5 B6 B7 ++ ([(h0, .inr (3, [.ref cu, .ref rv, .ref bt, .int (nI bc), .int ho1, .int fe])), (bt, .inl (bc9, 10, .inr (.inr (.inr (.inr (fun j => some (bo j))))))), (cu, .inr (1, [.ref cu1, .ref cu2, .ref cu3, .ref cu4, .int sc, .int to])), (cu1, .inl (cc1, 8, .inl cf1)), (rv, .inr (5, [.int (nI w), .int (nI h), .ref q1, .ref q2, .ref q3, .ref q4, .ref q5, .ref q6])), (q1, .inl (cy1, 100, .inl g1)), (q2, .inl (cy2, 100, .inl g2)), (q3, .inl (cy3, 100, .inl f3)), (q4, .inl (cy4, 100, .inl f4)), (q5, .inl (cy5, 100, .inl f5)), (q6, .inl (cy6, 100, .inl f6))] : va_W)) H → va_D A (bL bo B1 B2 B3 B4 B5 B6 B7 ++ ([(h0, .inr (3, [.ref cu, .ref rv, .ref bt, .int (nI bc), .int ho1, .int fe])), (bt, .inl (bc9, 10, .inr (.inr (.inr (.inr (fun j => some (bo j))))))), (cu, .inr (1, [.ref cu1, .ref cu2, .ref cu3, .ref cu4, .int sc, .int to])), (cu1, .inl (cc1, 8, .inl cf1)), (rv, .inr (5, [.int (nI w), .int (nI h), .ref q1, .ref q2, .ref q3, .ref q4, .ref q5, .ref q6])), (q1, .inl (cy1, 100, .inl g1)), (q2, .inl (cy2, 100, .inl g2)), (q3, .inl (cy3, 100, .inl f3)), (q4, .inl (cy4, 100, .inl f4)), (q5, .inl (cy5, 100, .inl f5)), (q6, .inl (cy6, 100, .inl f6))] : va_W)) → va_S A s.heap H locs → ∀ ls : Array Slot, lv_has ls 4 [(0, .ref h0), (1, .int co), (2, .int (nI j))] → W p l e ({ frames := 5, cells := 0, slots := 0, locals := 115 }) s m args below meth c H locs 0 0 Q (F0 m 73 ls [])) :
    ∀ n : Nat, ∀ (g1 : Nat → Int32) (g2 : Nat → Int32) (i : Nat), (i ≤ w) → (j < h) → (w ≤ 10) → (h ≤ 10) → (bc ≤ 10) → (w - i) < n → ∀ (H : Heap) (locs : List Loc), va_P D vwCl (bL bo B1 B2 B3 B4 B5 B6 B7 ++ ([(h0, .inr (3, [.ref cu, .ref rv, .ref bt, .int (nI bc), .int ho1, .int fe])), (bt, .inl (bc9, 10, .inr (.inr (.inr (.inr (fun j => some (bo j))))))), (cu, .inr (1, [.ref cu1, .ref cu2, .ref cu3, .ref cu4, .int sc, .int to])), (cu1, .inl (cc1, 8, .inl cf1)), (rv, .inr (5, [.int (nI w), .int (nI h), .ref q1, .ref q2, .ref q3, .ref q4, .ref q5, .ref q6])), (q1, .inl (cy1, 100, .inl g1)), (q2, .inl (cy2, 100, .inl g2)), (q3, .inl (cy3, 100, .inl f3)), (q4, .inl (cy4, 100, .inl f4)), (q5, .inl (cy5, 100, .inl f5)), (q6, .inl (cy6, 100, .inl f6))] : va_W)) H → va_D A (bL bo B1 B2 B3 B4 B5 B6 B7 ++ ([(h0, .inr (3, [.ref cu, .ref rv, .ref bt, .int (nI bc), .int ho1, .int fe])), (bt, .inl (bc9, 10, .inr (.inr (.inr (.inr (fun j => some (bo j))))))), (cu, .inr (1, [.ref cu1, .ref cu2, .ref cu3, .ref cu4, .int sc, .int to])), (cu1, .inl (cc1, 8, .inl cf1)), (rv, .inr (5, [.int (nI w), .int (nI h), .ref q1, .ref q2, .ref q3, .ref q4, .ref q5, .ref q6])), (q1, .inl (cy1, 100, .inl g1)), (q2, .inl (cy2, 100, .inl g2)), (q3, .inl (cy3, 100, .inl f3)), (q4, .inl (cy4, 100, .inl f4)), (q5, .inl (cy5, 100, .inl f5)), (q6, .inl (cy6, 100, .inl f6))] : va_W)) → va_S A s.heap H locs → ∀ ls : Array Slot, lv_has ls 4 [(0, .ref h0), (1, .int co), (2, .int (nI j)), (3, .int (nI i))] → W p l e ({ frames := 5, cells := 0, slots := 0, locals := 115 }) s m args below meth c H locs 0 0 Q (F0 m 39 ls []) := by
  intro n
  induction n with
  | zero => intro g1 g2 i b1 b2 h3 h4 hbc hn; exact absurd hn (Nat.not_lt_zero _)
  | succ n ih =>
    intro g1 g2 i b1 b2 h3 h4 hbc hn H locs hP hD hS ls hl
    obtain ⟨hx, hb, hml, hown, hts⟩ := id F
    refine lv_iload_n hx hb dX3_passHour_39 rfl (lv_at hl 3 rfl) ?_
    refine lv_aload_n hx hb dX3_passHour_40 rfl (lv_at hl 0 rfl) ?_
    refine va_get (D := D) (ci := 3) (v := .ref rv) (C := RX3) (T := TX3) (N := 6) hx hb hts inG_X3 hown hK hP 10 rfl rfl 1 (by decide) (hts _ kw_1_219) (fun _ h9 => h9) rfl dX3_passHour_41 ?_
    refine va_get (D := D) (ci := 5) (v := .int (nI w)) (C := RX6) (T := TX6) (N := 8) hx hb hts inG_X6 hown hK hP 14 rfl rfl 0 (by decide) (hts _ kw_1_144) (fun _ h9 => h9) rfl dX3_passHour_44 ?_
    refine lv_icmp_ge (tgt := 73) hx hb dX3_passHour_47 (by decide) (fun c_1 => ?_) (fun c_1 => ?_)
    · skip
      have c_1n : w ≤ i := (nI_leI (by omega) (by omega)).mp c_1
      have c_1 := Int32.not_lt.mpr c_1
      exact kx_73 g1 g2  H locs (hP.sub [0, 1, 2, 3, 4, 5, 6, 7, 8, 9, 10, 11, 12, 13, 14, 15, 16, 17, 18, 19, 20] rfl) (hD.sub [0, 1, 2, 3, 4, 5, 6, 7, 8, 9, 10, 11, 12, 13, 14, 15, 16, 17, 18, 19, 20] (by decide) rfl) hS ls (lv_sub hl [0, 1, 2] rfl)
    · skip
      have c_1n : i < w := nb_le (by omega) (by omega) c_1
      have c_1 := Int32.not_le.mp c_1
      refine lv_aload_n hx hb dX3_passHour_50 rfl (lv_at hl 0 rfl) ?_
      refine va_get (D := D) (ci := 3) (v := .ref rv) (C := RX3) (T := TX3) (N := 6) hx hb hts inG_X3 hown hK hP 10 rfl rfl 1 (by decide) (hts _ kw_1_219) (fun _ h9 => h9) rfl dX3_passHour_51 ?_
      refine lv_iload_n hx hb dX3_passHour_54 rfl (lv_at hl 3 rfl) ?_
      refine lv_iload_n hx hb dX3_passHour_55 rfl (lv_at hl 2 rfl) ?_
      refine lv_iload_n hx hb dX3_passHour_56 rfl (lv_at hl 1 rfl) ?_
      refine lv_aload_n hx hb dX3_passHour_57 rfl (lv_at hl 0 rfl) ?_
      refine lv_iload_n hx hb dX3_passHour_58 rfl (lv_at hl 3 rfl) ?_
      refine lv_iload_n hx hb dX3_passHour_59 rfl (lv_at hl 2 rfl) ?_
      refine mc_Vi (rest := [.int co, .int (nI j), .int (nI i), .ref rv]) (wr := [(q1, .inl (cy1, 100, .inl g1)), (q2, .inl (cy2, 100, .inl g2)), (q3, .inl (cy3, 100, .inl f3)), (q5, .inl (cy5, 100, .inl f5)), (q6, .inl (cy6, 100, .inl f6))]) F hK hP hD hS hA (c_meltAt l D bo B1 B2 B3 B4 B5 B6 B7 h0 cu rv bt bc9 bc ho1 fe cu1 cu2 cu3 cu4 cc1 cf1 sc to q1 q2 q3 q4 q5 q6 cy4 f4 w h (nI i) (nI j) (by omega) (by omega) (by omega)) ⟨gk_X3_148.1, gk_X3_148.2, Nat.le_of_ble_eq_true rfl, Nat.le_of_ble_eq_true rfl⟩ [0, 1, 2, 3, 4, 5, 6, 7, 8, 9, 10, 11, 12, 13, 14, 18] [15, 16, 17, 19, 20] [0, 1, 5] ⟨rfl, rfl, rfl, rfl, by decide⟩ rfl xT_move (fun _ _ _ => trivial) 10 rfl rfl rfl hl.1 rfl (Nat.le_of_ble_eq_true rfl) dX3_passHour_60 ⟨Nat.le_of_ble_eq_true rfl, Nat.le_of_ble_eq_true rfl⟩ (fun r_2 _ H locs hw hK1 hP hD hS => ?_)
      have hP := hP.sub (ws' := (bL bo B1 B2 B3 B4 B5 B6 B7 ++ ([(q1, .inl (cy1, 100, .inl g1)), (q2, .inl (cy2, 100, .inl g2)), (q3, .inl (cy3, 100, .inl f3)), (q5, .inl (cy5, 100, .inl f5)), (q6, .inl (cy6, 100, .inl f6)), (h0, .inr (3, [.ref cu, .ref rv, .ref bt, .int (nI bc), .int ho1, .int fe])), (bt, .inl (bc9, 10, .inr (.inr (.inr (.inr (fun j => some (bo j))))))), (cu, .inr (1, [.ref cu1, .ref cu2, .ref cu3, .ref cu4, .int sc, .int to])), (cu1, .inl (cc1, 8, .inl cf1)), (rv, .inr (5, [.int (nI w), .int (nI h), .ref q1, .ref q2, .ref q3, .ref q4, .ref q5, .ref q6])), (q4, .inl (cy4, 100, .inl f4))] : va_W))) [5, 6, 7, 8, 9, 10, 11, 12, 13, 14, 0, 1, 2, 3, 4, 15, 16, 17, 18, 19, 20] rfl
      have hD := hD.sub (ws' := (bL bo B1 B2 B3 B4 B5 B6 B7 ++ ([(q1, .inl (cy1, 100, .inl g1)), (q2, .inl (cy2, 100, .inl g2)), (q3, .inl (cy3, 100, .inl f3)), (q5, .inl (cy5, 100, .inl f5)), (q6, .inl (cy6, 100, .inl f6)), (h0, .inr (3, [.ref cu, .ref rv, .ref bt, .int (nI bc), .int ho1, .int fe])), (bt, .inl (bc9, 10, .inr (.inr (.inr (.inr (fun j => some (bo j))))))), (cu, .inr (1, [.ref cu1, .ref cu2, .ref cu3, .ref cu4, .int sc, .int to])), (cu1, .inl (cc1, 8, .inl cf1)), (rv, .inr (5, [.int (nI w), .int (nI h), .ref q1, .ref q2, .ref q3, .ref q4, .ref q5, .ref q6])), (q4, .inl (cy4, 100, .inl f4))] : va_W))) [5, 6, 7, 8, 9, 10, 11, 12, 13, 14, 0, 1, 2, 3, 4, 15, 16, 17, 18, 19, 20] (by decide) rfl
      have hw_3 : r_2 = r_2 := hw
      refine lv_isub hx hb dX3_passHour_63 ?_
      refine lv_topi (fun z_4 ez_4 => ?_)
      refine mc_Vv (rest := []) (wr := (bL bo B1 B2 B3 B4 B5 B6 B7 ++ ([(q3, .inl (cy3, 100, .inl f3)), (q5, .inl (cy5, 100, .inl f5)), (q6, .inl (cy6, 100, .inl f6)), (h0, .inr (3, [.ref cu, .ref rv, .ref bt, .int (nI bc), .int ho1, .int fe])), (bt, .inl (bc9, 10, .inr (.inr (.inr (.inr (fun j => some (bo j))))))), (cu, .inr (1, [.ref cu1, .ref cu2, .ref cu3, .ref cu4, .int sc, .int to])), (cu1, .inl (cc1, 8, .inl cf1)), (q4, .inl (cy4, 100, .inl f4))] : va_W))) F hK hP hD hS hA (c_thicken l D rv q1 q2 q3 q4 q5 q6 cy1 cy2 g1 g2 w h i j z_4 (by omega) (by omega) (by omega) (by omega)) ⟨gk_X3_151.1, gk_X3_151.2, Nat.le_of_ble_eq_true rfl, Nat.le_of_ble_eq_true rfl⟩ [19, 10, 11] [0, 1, 2, 3, 4, 5, 6, 7, 8, 9, 12, 13, 14, 15, 16, 17, 18, 20] [2, 3] ⟨rfl, rfl, rfl, rfl, by decide⟩ rfl xT_move (fun _ _ _ => trivial) 19 rfl rfl rfl hl.1 rfl (Nat.le_of_ble_eq_true rfl) dX3_passHour_64 ⟨Nat.le_of_ble_eq_true rfl, Nat.le_of_ble_eq_true rfl⟩ (fun u H locs hw hK1 hP hD hS => ?_)
      obtain ⟨g1_5, g2_6⟩ := u
      have hP : va_P D vwCl (bL bo B1 B2 B3 B4 B5 B6 B7 ++ ([(q3, .inl (cy3, 100, .inl f3)), (q5, .inl (cy5, 100, .inl f5)), (q6, .inl (cy6, 100, .inl f6)), (h0, .inr (3, [.ref cu, .ref rv, .ref bt, .int (nI bc), .int ho1, .int fe])), (bt, .inl (bc9, 10, .inr (.inr (.inr (.inr (fun j => some (bo j))))))), (cu, .inr (1, [.ref cu1, .ref cu2, .ref cu3, .ref cu4, .int sc, .int to])), (cu1, .inl (cc1, 8, .inl cf1)), (q4, .inl (cy4, 100, .inl f4)), (rv, .inr (5, [.int (nI w), .int (nI h), .ref q1, .ref q2, .ref q3, .ref q4, .ref q5, .ref q6])), (q1, .inl (cy1, 100, .inl g1_5)), (q2, .inl (cy2, 100, .inl g2_6))] : va_W)) H := hP
      have hD : va_D A (bL bo B1 B2 B3 B4 B5 B6 B7 ++ ([(q3, .inl (cy3, 100, .inl f3)), (q5, .inl (cy5, 100, .inl f5)), (q6, .inl (cy6, 100, .inl f6)), (h0, .inr (3, [.ref cu, .ref rv, .ref bt, .int (nI bc), .int ho1, .int fe])), (bt, .inl (bc9, 10, .inr (.inr (.inr (.inr (fun j => some (bo j))))))), (cu, .inr (1, [.ref cu1, .ref cu2, .ref cu3, .ref cu4, .int sc, .int to])), (cu1, .inl (cc1, 8, .inl cf1)), (q4, .inl (cy4, 100, .inl f4)), (rv, .inr (5, [.int (nI w), .int (nI h), .ref q1, .ref q2, .ref q3, .ref q4, .ref q5, .ref q6])), (q1, .inl (cy1, 100, .inl g1_5)), (q2, .inl (cy2, 100, .inl g2_6))] : va_W)) := hD
      refine lv_iinc (v := nI (i + 1)) (lv' := [(3, .int (nI (i + 1))), (0, .ref h0), (1, .int co), (2, .int (nI j))]) hx hb dX3_passHour_67 hl (k := 3) rfl (nI_add i 1) (by decide) rfl (fun ls hl => ?_)
      refine lv_goto (tgt := 39) hx hb dX3_passHour_70 (by decide) ?_
      exact ih g1_5 g2_6 (i + 1) (by omega) (by omega) (by omega) (by omega) (by omega) (by omega) H locs (hP.sub [0, 1, 2, 3, 4, 5, 6, 7, 8, 9, 13, 14, 15, 16, 18, 19, 20, 10, 17, 11, 12] rfl) (hD.sub [0, 1, 2, 3, 4, 5, 6, 7, 8, 9, 13, 14, 15, 16, 18, 19, 20, 10, 17, 11, 12] (by decide) rfl) hS ls (lv_sub hl [1, 2, 3, 0] rfl)
theorem dX3_passHour_26 : decode cX3_passHour 26 = .ok (.iload_n 2, 1) := by decide +kernel
theorem dX3_passHour_27 : decode cX3_passHour 27 = .ok (.aload_n 0, 1) := by decide +kernel
theorem dX3_passHour_28 : decode cX3_passHour 28 = .ok (.getfield 21, 3) := by decide +kernel
theorem dX3_passHour_31 : decode cX3_passHour 31 = .ok (.getfield 142, 3) := by decide +kernel
theorem dX3_passHour_34 : decode cX3_passHour 34 = .ok (.if_icmp .ge 45, 3) := by decide +kernel
theorem dX3_passHour_37 : decode cX3_passHour 37 = .ok (.iconst 0, 1) := by decide +kernel
theorem dX3_passHour_38 : decode cX3_passHour 38 = .ok (.istore_n 3, 1) := by decide +kernel
theorem dX3_passHour_73 : decode cX3_passHour 73 = .ok (.iinc 2 1, 3) := by decide +kernel
theorem dX3_passHour_76 : decode cX3_passHour 76 = .ok (.goto (-50), 3) := by decide +kernel
set_option maxHeartbeats 4000000 in
set_option maxRecDepth 100000 in
theorem lp_hour_out {p : Program} {l : Launch} {e : Env} {s : State} {m : MethodId} {args : Array Value} {below : List Frame} {meth : Method} {c : Code} {Q : State → Prop} {A : Nat → Prop} {D : va_G} (F : mFix p s m args c cX3_passHour 4 RX3) (hA : ∀ q, s.heap.size ≤ q → A q) (bo : Nat → Nat) (B1 : Nat → Int32) (B2 : Nat → Int32) (B3 : Nat → Int32) (B4 : Nat → Int32) (h0 : Nat) (cu : Nat) (rv : Nat) (bt : Nat) (bc9 : ClassId) (bc : Nat) (fe : Int32) (cu1 : Nat) (cu2 : Nat) (cu3 : Nat) (cu4 : Nat) (cc1 : ClassId) (cf1 : Nat → Int32) (sc : Int32) (to : Int32) (q1 : Nat) (q2 : Nat) (q3 : Nat) (q4 : Nat) (q5 : Nat) (q6 : Nat) (cy1 : ClassId) (cy2 : ClassId) (cy3 : ClassId) (cy4 : ClassId) (cy5 : ClassId) (cy6 : ClassId) (w : Nat) (h : Nat) (co : Int32) (ho1 : Int32) (B5 : Nat → Int32) (B6 : Nat → Int32) (B7 : Nat → Int32) (f3 : Nat → Int32) (f4 : Nat → Int32) (f5 : Nat → Int32) (f6 : Nat → Int32) (hK : va_K D vwCl [(bc9, .object RX0), (cc1, .int), (cy1, .int), (cy2, .int), (cy3, .int), (cy4, .int), (cy5, .boolean), (cy6, .boolean)] s)
    (kx_79 : ∀ (g1 : Nat → Int32) (g2 : Nat → Int32), ∀ (H : Heap) (locs : List Loc), va_P D vwCl (bL bo B1 B2 B3 B4 B5 B6 B7 ++ ([(h0, .inr (3, [.ref cu, .ref rv, .ref bt, .int (nI bc), .int ho1, .int fe])), (bt, .inl (bc9, 10, .inr (.inr (.inr (.inr (fun j => some (bo j))))))), (cu, .inr (1, [.ref cu1, .ref cu2, .ref cu3, .ref cu4, .int sc, .int to])), (cu1, .inl (cc1, 8, .inl cf1)), (rv, .inr (5, [.int (nI w), .int (nI h), .ref q1, .ref q2, .ref q3, .ref q4, .ref q5, .ref q6])), (q1, .inl (cy1, 100, .inl g1)), (q2, .inl (cy2, 100, .inl g2)), (q3, .inl (cy3, 100, .inl f3)), (q4, .inl (cy4, 100, .inl f4)), (q5, .inl (cy5, 100, .inl f5)), (q6, .inl (cy6, 100, .inl f6))] : va_W)) H → va_D A (bL bo B1 B2 B3 B4 B5 B6 B7 ++ ([(h0, .inr (3, [.ref cu, .ref rv, .ref bt, .int (nI bc), .int ho1, .int fe])), (bt, .inl (bc9, 10, .inr (.inr (.inr (.inr (fun j => some (bo j))))))), (cu, .inr (1, [.ref cu1, .ref cu2, .ref cu3, .ref cu4, .int sc, .int to])), (cu1, .inl (cc1, 8, .inl cf1)), (rv, .inr (5, [.int (nI w), .int (nI h), .ref q1, .ref q2, .ref q3, .ref q4, .ref q5, .ref q6])), (q1, .inl (cy1, 100, .inl g1)), (q2, .inl (cy2, 100, .inl g2)), (q3, .inl (cy3, 100, .inl f3)), (q4, .inl (cy4, 100, .inl f4)), (q5, .inl (cy5, 100, .inl f5)), (q6, .inl (cy6, 100, .inl f6))] : va_W)) → va_S A s.heap H locs → ∀ ls : Array Slot, lv_has ls 4 [(0, .ref h0), (1, .int co)] → W p l e ({ frames := 5, cells := 0, slots := 0, locals := 115 }) s m args below meth c H locs 0 0 Q (F0 m 79 ls [])) :
    ∀ n : Nat, ∀ (g1 : Nat → Int32) (g2 : Nat → Int32) (j : Nat), (j ≤ h) → (w ≤ 10) → (h ≤ 10) → (bc ≤ 10) → (h - j) < n → ∀ (H : Heap) (locs : List Loc), va_P D vwCl (bL bo B1 B2 B3 B4 B5 B6 B7 ++ ([(h0, .inr (3, [.ref cu, .ref rv, .ref bt, .int (nI bc), .int ho1, .int fe])), (bt, .inl (bc9, 10, .inr (.inr (.inr (.inr (fun j => some (bo j))))))), (cu, .inr (1, [.ref cu1, .ref cu2, .ref cu3, .ref cu4, .int sc, .int to])), (cu1, .inl (cc1, 8, .inl cf1)), (rv, .inr (5, [.int (nI w), .int (nI h), .ref q1, .ref q2, .ref q3, .ref q4, .ref q5, .ref q6])), (q1, .inl (cy1, 100, .inl g1)), (q2, .inl (cy2, 100, .inl g2)), (q3, .inl (cy3, 100, .inl f3)), (q4, .inl (cy4, 100, .inl f4)), (q5, .inl (cy5, 100, .inl f5)), (q6, .inl (cy6, 100, .inl f6))] : va_W)) H → va_D A (bL bo B1 B2 B3 B4 B5 B6 B7 ++ ([(h0, .inr (3, [.ref cu, .ref rv, .ref bt, .int (nI bc), .int ho1, .int fe])), (bt, .inl (bc9, 10, .inr (.inr (.inr (.inr (fun j => some (bo j))))))), (cu, .inr (1, [.ref cu1, .ref cu2, .ref cu3, .ref cu4, .int sc, .int to])), (cu1, .inl (cc1, 8, .inl cf1)), (rv, .inr (5, [.int (nI w), .int (nI h), .ref q1, .ref q2, .ref q3, .ref q4, .ref q5, .ref q6])), (q1, .inl (cy1, 100, .inl g1)), (q2, .inl (cy2, 100, .inl g2)), (q3, .inl (cy3, 100, .inl f3)), (q4, .inl (cy4, 100, .inl f4)), (q5, .inl (cy5, 100, .inl f5)), (q6, .inl (cy6, 100, .inl f6))] : va_W)) → va_S A s.heap H locs → ∀ ls : Array Slot, lv_has ls 4 [(0, .ref h0), (1, .int co), (2, .int (nI j))] → W p l e ({ frames := 5, cells := 0, slots := 0, locals := 115 }) s m args below meth c H locs 0 0 Q (F0 m 26 ls []) := by
  intro n
  induction n with
  | zero => intro g1 g2 j b1 h3 h4 hbc hn; exact absurd hn (Nat.not_lt_zero _)
  | succ n ih =>
    intro g1 g2 j b1 h3 h4 hbc hn H locs hP hD hS ls hl
    obtain ⟨hx, hb, hml, hown, hts⟩ := id F
    refine lv_iload_n hx hb dX3_passHour_26 rfl (lv_at hl 2 rfl) ?_
    refine lv_aload_n hx hb dX3_passHour_27 rfl (lv_at hl 0 rfl) ?_
    refine va_get (D := D) (ci := 3) (v := .ref rv) (C := RX3) (T := TX3) (N := 6) hx hb hts inG_X3 hown hK hP 10 rfl rfl 1 (by decide) (hts _ kw_1_219) (fun _ h9 => h9) rfl dX3_passHour_28 ?_
    refine va_get (D := D) (ci := 5) (v := .int (nI h)) (C := RX6) (T := TX6) (N := 8) hx hb hts inG_X6 hown hK hP 14 rfl rfl 1 (by decide) (hts _ kw_1_147) (fun _ h9 => h9) rfl dX3_passHour_31 ?_
    refine lv_icmp_ge (tgt := 79) hx hb dX3_passHour_34 (by decide) (fun c_1 => ?_) (fun c_1 => ?_)
    · skip
      have c_1n : h ≤ j := (nI_leI (by omega) (by omega)).mp c_1
      have c_1 := Int32.not_lt.mpr c_1
      exact kx_79 g1 g2  H locs (hP.sub [0, 1, 2, 3, 4, 5, 6, 7, 8, 9, 10, 11, 12, 13, 14, 15, 16, 17, 18, 19, 20] rfl) (hD.sub [0, 1, 2, 3, 4, 5, 6, 7, 8, 9, 10, 11, 12, 13, 14, 15, 16, 17, 18, 19, 20] (by decide) rfl) hS ls (lv_sub hl [0, 1] rfl)
    · skip
      have c_1n : j < h := nb_le (by omega) (by omega) c_1
      have c_1 := Int32.not_le.mp c_1
      refine lv_iconst (v := 0) hx hb dX3_passHour_37 (by decide) ?_
      refine lv_istore_n (lv' := [(3, .int 0), (0, .ref h0), (1, .int co), (2, .int (nI j))]) hx hb dX3_passHour_38 rfl hl (by decide) rfl (fun ls hl => ?_)
      refine lp_hour_in F hA bo B1 B2 B3 B4 h0 cu rv bt bc9 bc fe cu1 cu2 cu3 cu4 cc1 cf1 sc to q1 q2 q3 q4 q5 q6 cy1 cy2 cy3 cy4 cy5 cy6 w h co ho1 B5 B6 B7 f3 f4 f5 f6 j (hK.sub [0, 1, 2, 3, 4, 5, 6, 7] rfl) (fun g1_2 g2_3  H locs hP hD hS ls hl => ?_) _ g1 g2 0 (by omega) (by omega) (by omega) (by omega) (by omega) (Nat.lt_succ_self _) _ _ (hP.sub [0, 1, 2, 3, 4, 5, 6, 7, 8, 9, 10, 11, 12, 13, 14, 15, 16, 17, 18, 19, 20] rfl) (hD.sub [0, 1, 2, 3, 4, 5, 6, 7, 8, 9, 10, 11, 12, 13, 14, 15, 16, 17, 18, 19, 20] (by decide) rfl) hS ls (lv_sub hl [1, 2, 3, 0] rfl)
      refine lv_iinc (v := nI (j + 1)) (lv' := [(2, .int (nI (j + 1))), (0, .ref h0), (1, .int co)]) hx hb dX3_passHour_73 hl (k := 2) rfl (nI_add j 1) (by decide) rfl (fun ls hl => ?_)
      refine lv_goto (tgt := 26) hx hb dX3_passHour_76 (by decide) ?_
      exact ih g1_2 g2_3 (j + 1) (by omega) (by omega) (by omega) (by omega) (by omega) H locs (hP.sub [0, 1, 2, 3, 4, 5, 6, 7, 8, 9, 10, 11, 12, 13, 14, 15, 16, 17, 18, 19, 20] rfl) (hD.sub [0, 1, 2, 3, 4, 5, 6, 7, 8, 9, 10, 11, 12, 13, 14, 15, 16, 17, 18, 19, 20] (by decide) rfl) hS ls (lv_sub hl [1, 2, 0] rfl)
theorem dX3_passHour_83 : decode cX3_passHour 83 = .ok (.iload_n 3, 1) := by decide +kernel
theorem dX3_passHour_84 : decode cX3_passHour 84 = .ok (.bipush 100, 2) := by decide +kernel
theorem dX3_passHour_86 : decode cX3_passHour 86 = .ok (.if_icmp .ge 33, 3) := by decide +kernel
theorem dX3_passHour_89 : decode cX3_passHour 89 = .ok (.aload_n 0, 1) := by decide +kernel
theorem dX3_passHour_90 : decode cX3_passHour 90 = .ok (.getfield 21, 3) := by decide +kernel
theorem dX3_passHour_93 : decode cX3_passHour 93 = .ok (.aload_n 0, 1) := by decide +kernel
theorem dX3_passHour_94 : decode cX3_passHour 94 = .ok (.getfield 12, 3) := by decide +kernel
theorem dX3_passHour_97 : decode cX3_passHour 97 = .ok (.invokevirtual 80, 3) := by decide +kernel
theorem kw_3_169 : Cond.methodLink RX3 154 yX6_markBreaking ∈ gw := gw_t3 (List.mem_of_getElem? (i := 169) (by decide +kernel)) (by decide +kernel)
theorem kw_3_170 : Cond.instanceMethod yX6_markBreaking ∈ gw := gw_t3 (List.mem_of_getElem? (i := 170) (by decide +kernel)) (by decide +kernel)
theorem kw_3_171 : Cond.selects RX6 yX6_markBreaking yX6_markBreaking ∈ gw := gw_t3 (List.mem_of_getElem? (i := 171) (by decide +kernel)) (by decide +kernel)
theorem kw_3_172 : Cond.code yX6_markBreaking cX6_markBreaking 7 (some .boolean) ∈ gw := gw_t3 (List.mem_of_getElem? (i := 172) (by decide +kernel)) (by decide +kernel)
theorem gk_X3_154 : GoodIn gw (wsV RX3 154 RX6 yX6_markBreaking (.code yX6_markBreaking cX6_markBreaking 7 (some .boolean) :: gw)) ∧ (yX6_markBreaking.cls = RX6 ∧ yX6_markBreaking.cls ≠ "java/lang/invoke/MethodHandle" ∧ yX6_markBreaking.cls ≠ "java/lang/invoke/VarHandle" ∧ (parseMethodDescriptor yX6_markBreaking.desc).map (fun d => d.parameters.length) = some 1) := ⟨gi_V kw_3_169 kw_3_170 kw_3_171 kw_1_7 kw_3_172, by decide +kernel⟩
theorem dX3_passHour_100 : decode cX3_passHour 100 = .ok (.invokevirtual 154, 3) := by decide +kernel
theorem dX3_passHour_103 : decode cX3_passHour 103 = .ok (.ifCond .eq 16, 3) := by decide +kernel
theorem dX3_passHour_106 : decode cX3_passHour 106 = .ok (.iload_n 2, 1) := by decide +kernel
theorem dX3_passHour_107 : decode cX3_passHour 107 = .ok (.aload_n 0, 1) := by decide +kernel
theorem kw_3_173 : Cond.methodLink RX3 157 yX3_breakMarked ∈ gw := gw_t3 (List.mem_of_getElem? (i := 173) (by decide +kernel)) (by decide +kernel)
theorem kw_3_175 : Cond.instanceMethod yX3_breakMarked ∈ gw := gw_t3 (List.mem_of_getElem? (i := 175) (by decide +kernel)) (by decide +kernel)
theorem ks_1_13 : Cond.selects RX3 yX3_breakMarked yX3_breakMarked ∈ gw := gw_s (y := yX3_breakMarked) (n := 6) (List.mem_append_left _ (List.mem_of_getElem? (i := 13) (by decide +kernel)))
theorem kw_3_176 : Cond.code yX3_breakMarked cX3_breakMarked 4 (some .int) ∈ gw := gw_t3 (List.mem_of_getElem? (i := 176) (by decide +kernel)) (by decide +kernel)
theorem gk_X3_157 : GoodIn gw (wsV RX3 157 RX3 yX3_breakMarked (.code yX3_breakMarked cX3_breakMarked 4 (some .int) :: gw)) ∧ (yX3_breakMarked.cls = RX3 ∧ yX3_breakMarked.cls ≠ "java/lang/invoke/MethodHandle" ∧ yX3_breakMarked.cls ≠ "java/lang/invoke/VarHandle" ∧ (parseMethodDescriptor yX3_breakMarked.desc).map (fun d => d.parameters.length) = some 0) := ⟨gi_V kw_3_173 kw_3_175 ks_1_13 kw_1_6 kw_3_176, by decide +kernel⟩
theorem dX3_passHour_108 : decode cX3_passHour 108 = .ok (.invokevirtual 157, 3) := by decide +kernel
theorem dX3_passHour_111 : decode cX3_passHour 111 = .ok (.iadd, 1) := by decide +kernel
theorem dX3_passHour_112 : decode cX3_passHour 112 = .ok (.istore_n 2, 1) := by decide +kernel
theorem dX3_passHour_113 : decode cX3_passHour 113 = .ok (.iinc 3 1, 3) := by decide +kernel
theorem dX3_passHour_116 : decode cX3_passHour 116 = .ok (.goto (-33), 3) := by decide +kernel
set_option maxHeartbeats 4000000 in
set_option maxRecDepth 100000 in
theorem lp_hour_rounds {p : Program} {l : Launch} {e : Env} {s : State} {m : MethodId} {args : Array Value} {below : List Frame} {meth : Method} {c : Code} {Q : State → Prop} {A : Nat → Prop} {D : va_G} (F : mFix p s m args c cX3_passHour 4 RX3) (hA : ∀ q, s.heap.size ≤ q → A q) (bo : Nat → Nat) (B1 : Nat → Int32) (B2 : Nat → Int32) (B3 : Nat → Int32) (B4 : Nat → Int32) (h0 : Nat) (cu : Nat) (rv : Nat) (bt : Nat) (bc9 : ClassId) (bc : Nat) (fe : Int32) (cu1 : Nat) (cu2 : Nat) (cu3 : Nat) (cu4 : Nat) (cc1 : ClassId) (cf1 : Nat → Int32) (sc : Int32) (to : Int32) (q1 : Nat) (q2 : Nat) (q3 : Nat) (q4 : Nat) (q5 : Nat) (q6 : Nat) (cy1 : ClassId) (cy2 : ClassId) (cy3 : ClassId) (cy4 : ClassId) (cy5 : ClassId) (cy6 : ClassId) (w : Nat) (h : Nat) (co : Int32) (ho1 : Int32) (g1 : Nat → Int32) (g2 : Nat → Int32) (hK : va_K D vwCl [(bc9, .object RX0), (cc1, .int), (cy1, .int), (cy2, .int), (cy3, .int), (cy4, .int), (cy5, .boolean), (cy6, .boolean)] s)
    (kx_119 : ∀ (G5 : Nat → Int32) (G6 : Nat → Int32) (G7 : Nat → Int32) (g3 : Nat → Int32) (g4 : Nat → Int32) (g5 : Nat → Int32) (g6 : Nat → Int32) (n9 : Int32), ∀ (H : Heap) (locs : List Loc), va_P D vwCl (bL bo B1 B2 B3 B4 G5 G6 G7 ++ ([(h0, .inr (3, [.ref cu, .ref rv, .ref bt, .int (nI bc), .int ho1, .int fe])), (bt, .inl (bc9, 10, .inr (.inr (.inr (.inr (fun j => some (bo j))))))), (cu, .inr (1, [.ref cu1, .ref cu2, .ref cu3, .ref cu4, .int sc, .int to])), (cu1, .inl (cc1, 8, .inl cf1)), (rv, .inr (5, [.int (nI w), .int (nI h), .ref q1, .ref q2, .ref q3, .ref q4, .ref q5, .ref q6])), (q1, .inl (cy1, 100, .inl g1)), (q2, .inl (cy2, 100, .inl g2)), (q3, .inl (cy3, 100, .inl g3)), (q4, .inl (cy4, 100, .inl g4)), (q5, .inl (cy5, 100, .inl g5)), (q6, .inl (cy6, 100, .inl g6))] : va_W)) H → va_D A (bL bo B1 B2 B3 B4 G5 G6 G7 ++ ([(h0, .inr (3, [.ref cu, .ref rv, .ref bt, .int (nI bc), .int ho1, .int fe])), (bt, .inl (bc9, 10, .inr (.inr (.inr (.inr (fun j => some (bo j))))))), (cu, .inr (1, [.ref cu1, .ref cu2, .ref cu3, .ref cu4, .int sc, .int to])), (cu1, .inl (cc1, 8, .inl cf1)), (rv, .inr (5, [.int (nI w), .int (nI h), .ref q1, .ref q2, .ref q3, .ref q4, .ref q5, .ref q6])), (q1, .inl (cy1, 100, .inl g1)), (q2, .inl (cy2, 100, .inl g2)), (q3, .inl (cy3, 100, .inl g3)), (q4, .inl (cy4, 100, .inl g4)), (q5, .inl (cy5, 100, .inl g5)), (q6, .inl (cy6, 100, .inl g6))] : va_W)) → va_S A s.heap H locs → ∀ ls : Array Slot, lv_has ls 4 [(2, .int n9)] → W p l e ({ frames := 5, cells := 0, slots := 0, locals := 115 }) s m args below meth c H locs 0 0 Q (F0 m 119 ls [])) :
    ∀ n : Nat, ∀ (G5 : Nat → Int32) (G6 : Nat → Int32) (G7 : Nat → Int32) (g3 : Nat → Int32) (g4 : Nat → Int32) (g5 : Nat → Int32) (g6 : Nat → Int32) (n9 : Int32) (i : Nat), (i ≤ 100) → (w ≤ 10) → (h ≤ 10) → (bc ≤ 10) → (100 - i) < n → ∀ (H : Heap) (locs : List Loc), va_P D vwCl (bL bo B1 B2 B3 B4 G5 G6 G7 ++ ([(h0, .inr (3, [.ref cu, .ref rv, .ref bt, .int (nI bc), .int ho1, .int fe])), (bt, .inl (bc9, 10, .inr (.inr (.inr (.inr (fun j => some (bo j))))))), (cu, .inr (1, [.ref cu1, .ref cu2, .ref cu3, .ref cu4, .int sc, .int to])), (cu1, .inl (cc1, 8, .inl cf1)), (rv, .inr (5, [.int (nI w), .int (nI h), .ref q1, .ref q2, .ref q3, .ref q4, .ref q5, .ref q6])), (q1, .inl (cy1, 100, .inl g1)), (q2, .inl (cy2, 100, .inl g2)), (q3, .inl (cy3, 100, .inl g3)), (q4, .inl (cy4, 100, .inl g4)), (q5, .inl (cy5, 100, .inl g5)), (q6, .inl (cy6, 100, .inl g6))] : va_W)) H → va_D A (bL bo B1 B2 B3 B4 G5 G6 G7 ++ ([(h0, .inr (3, [.ref cu, .ref rv, .ref bt, .int (nI bc), .int ho1, .int fe])), (bt, .inl (bc9, 10, .inr (.inr (.inr (.inr (fun j => some (bo j))))))), (cu, .inr (1, [.ref cu1, .ref cu2, .ref cu3, .ref cu4, .int sc, .int to])), (cu1, .inl (cc1, 8, .inl cf1)), (rv, .inr (5, [.int (nI w), .int (nI h), .ref q1, .ref q2, .ref q3, .ref q4, .ref q5, .ref q6])), (q1, .inl (cy1, 100, .inl g1)), (q2, .inl (cy2, 100, .inl g2)), (q3, .inl (cy3, 100, .inl g3)), (q4, .inl (cy4, 100, .inl g4)), (q5, .inl (cy5, 100, .inl g5)), (q6, .inl (cy6, 100, .inl g6))] : va_W)) → va_S A s.heap H locs → ∀ ls : Array Slot, lv_has ls 4 [(0, .ref h0), (2, .int n9), (3, .int (nI i))] → W p l e ({ frames := 5, cells := 0, slots := 0, locals := 115 }) s m args below meth c H locs 0 0 Q (F0 m 83 ls []) := by
  intro n
  induction n with
  | zero => intro G5 G6 G7 g3 g4 g5 g6 n9 i b1 h3 h4 hbc hn; exact absurd hn (Nat.not_lt_zero _)
  | succ n ih =>
    intro G5 G6 G7 g3 g4 g5 g6 n9 i b1 h3 h4 hbc hn H locs hP hD hS ls hl
    obtain ⟨hx, hb, hml, hown, hts⟩ := id F
    refine lv_iload_n hx hb dX3_passHour_83 rfl (lv_at hl 2 rfl) ?_
    refine lv_bipush (v := 100) hx hb dX3_passHour_84 (by decide) ?_
    refine lv_icmp_ge (tgt := 119) hx hb dX3_passHour_86 (by decide) (fun c_1 => ?_) (fun c_1 => ?_)
    · skip
      have c_1n : 100 ≤ i := (nI_leI (by omega) (by omega)).mp c_1
      have c_1 := Int32.not_lt.mpr c_1
      exact kx_119 G5 G6 G7 g3 g4 g5 g6 n9  H locs (hP.sub [0, 1, 2, 3, 4, 5, 6, 7, 8, 9, 10, 11, 12, 13, 14, 15, 16, 17, 18, 19, 20] rfl) (hD.sub [0, 1, 2, 3, 4, 5, 6, 7, 8, 9, 10, 11, 12, 13, 14, 15, 16, 17, 18, 19, 20] (by decide) rfl) hS ls (lv_sub hl [1] rfl)
    · skip
      have c_1n : i < 100 := nb_le (by omega) (by omega) c_1
      have c_1 := Int32.not_le.mp c_1
      refine lv_aload_n hx hb dX3_passHour_89 rfl (lv_at hl 0 rfl) ?_
      refine va_get (D := D) (ci := 3) (v := .ref rv) (C := RX3) (T := TX3) (N := 6) hx hb hts inG_X3 hown hK hP 10 rfl rfl 1 (by decide) (hts _ kw_1_219) (fun _ h9 => h9) rfl dX3_passHour_90 ?_
      refine lv_aload_n hx hb dX3_passHour_93 rfl (lv_at hl 0 rfl) ?_
      refine va_get (D := D) (ci := 3) (v := .ref cu) (C := RX3) (T := TX3) (N := 6) hx hb hts inG_X3 hown hK hP 10 rfl rfl 0 (by decide) (hts _ kw_1_215) (fun _ h9 => h9) rfl dX3_passHour_94 ?_
      refine mc_Vi (rest := [.ref rv]) (wr := (bL bo B1 B2 B3 B4 G5 G6 G7 ++ ([(h0, .inr (3, [.ref cu, .ref rv, .ref bt, .int (nI bc), .int ho1, .int fe])), (bt, .inl (bc9, 10, .inr (.inr (.inr (.inr (fun j => some (bo j))))))), (rv, .inr (5, [.int (nI w), .int (nI h), .ref q1, .ref q2, .ref q3, .ref q4, .ref q5, .ref q6])), (q1, .inl (cy1, 100, .inl g1)), (q2, .inl (cy2, 100, .inl g2)), (q3, .inl (cy3, 100, .inl g3)), (q4, .inl (cy4, 100, .inl g4)), (q5, .inl (cy5, 100, .inl g5)), (q6, .inl (cy6, 100, .inl g6))] : va_W))) F hK hP hD hS hA (c_cu_bear l D cu cu1 cu2 cu3 cu4 cc1 cf1 sc to ) ⟨gk_X3_80.1, gk_X3_80.2, Nat.le_of_ble_eq_true rfl, Nat.le_of_ble_eq_true rfl⟩ [12, 13] [0, 1, 2, 3, 4, 5, 6, 7, 8, 9, 10, 11, 14, 15, 16, 17, 18, 19, 20] [1] ⟨rfl, rfl, rfl, rfl, by decide⟩ rfl xT_move (fun _ _ _ => trivial) 12 rfl rfl rfl hl.1 rfl (Nat.le_of_ble_eq_true rfl) dX3_passHour_97 ⟨Nat.le_of_ble_eq_true rfl, Nat.le_of_ble_eq_true rfl⟩ (fun r_2 _ H locs hw hK1 hP hD hS => ?_)
      have hP : va_P D vwCl (bL bo B1 B2 B3 B4 G5 G6 G7 ++ ([(h0, .inr (3, [.ref cu, .ref rv, .ref bt, .int (nI bc), .int ho1, .int fe])), (bt, .inl (bc9, 10, .inr (.inr (.inr (.inr (fun j => some (bo j))))))), (rv, .inr (5, [.int (nI w), .int (nI h), .ref q1, .ref q2, .ref q3, .ref q4, .ref q5, .ref q6])), (q1, .inl (cy1, 100, .inl g1)), (q2, .inl (cy2, 100, .inl g2)), (q3, .inl (cy3, 100, .inl g3)), (q4, .inl (cy4, 100, .inl g4)), (q5, .inl (cy5, 100, .inl g5)), (q6, .inl (cy6, 100, .inl g6)), (cu, .inr (1, [.ref cu1, .ref cu2, .ref cu3, .ref cu4, .int sc, .int to])), (cu1, .inl (cc1, 8, .inl cf1))] : va_W)) H := hP
      have hD : va_D A (bL bo B1 B2 B3 B4 G5 G6 G7 ++ ([(h0, .inr (3, [.ref cu, .ref rv, .ref bt, .int (nI bc), .int ho1, .int fe])), (bt, .inl (bc9, 10, .inr (.inr (.inr (.inr (fun j => some (bo j))))))), (rv, .inr (5, [.int (nI w), .int (nI h), .ref q1, .ref q2, .ref q3, .ref q4, .ref q5, .ref q6])), (q1, .inl (cy1, 100, .inl g1)), (q2, .inl (cy2, 100, .inl g2)), (q3, .inl (cy3, 100, .inl g3)), (q4, .inl (cy4, 100, .inl g4)), (q5, .inl (cy5, 100, .inl g5)), (q6, .inl (cy6, 100, .inl g6)), (cu, .inr (1, [.ref cu1, .ref cu2, .ref cu3, .ref cu4, .int sc, .int to])), (cu1, .inl (cc1, 8, .inl cf1))] : va_W)) := hD
      have hw_3 : r_2 = cf1 0 := hw
      refine mc_Vi (rest := []) (wr := (bL bo B1 B2 B3 B4 G5 G6 G7 ++ ([(h0, .inr (3, [.ref cu, .ref rv, .ref bt, .int (nI bc), .int ho1, .int fe])), (bt, .inl (bc9, 10, .inr (.inr (.inr (.inr (fun j => some (bo j))))))), (q4, .inl (cy4, 100, .inl g4)), (cu, .inr (1, [.ref cu1, .ref cu2, .ref cu3, .ref cu4, .int sc, .int to])), (cu1, .inl (cc1, 8, .inl cf1))] : va_W))) F hK hP hD hS hA (c_markBreaking l D rv q1 q2 q3 q4 q5 q6 cy1 cy2 cy3 cy5 cy6 g1 g2 g3 g5 w h r_2 g6 (by omega) (by omega)) ⟨gk_X3_154.1, gk_X3_154.2, Nat.le_of_ble_eq_true rfl, Nat.le_of_ble_eq_true rfl⟩ [12, 13, 14, 15, 17, 18] [0, 1, 2, 3, 4, 5, 6, 7, 8, 9, 10, 11, 16, 19, 20] [2, 3, 4, 6, 7] ⟨rfl, rfl, rfl, rfl, by decide⟩ rfl xT_move (fun _ _ _ => trivial) 12 rfl rfl rfl hl.1 rfl (Nat.le_of_ble_eq_true rfl) dX3_passHour_100 ⟨Nat.le_of_ble_eq_true rfl, Nat.le_of_ble_eq_true rfl⟩ (fun r_5 g6_4 H locs hw hK1 hP hD hS => ?_)
      have hP : va_P D vwCl (bL bo B1 B2 B3 B4 G5 G6 G7 ++ ([(h0, .inr (3, [.ref cu, .ref rv, .ref bt, .int (nI bc), .int ho1, .int fe])), (bt, .inl (bc9, 10, .inr (.inr (.inr (.inr (fun j => some (bo j))))))), (q4, .inl (cy4, 100, .inl g4)), (cu, .inr (1, [.ref cu1, .ref cu2, .ref cu3, .ref cu4, .int sc, .int to])), (cu1, .inl (cc1, 8, .inl cf1)), (rv, .inr (5, [.int (nI w), .int (nI h), .ref q1, .ref q2, .ref q3, .ref q4, .ref q5, .ref q6])), (q1, .inl (cy1, 100, .inl g1)), (q2, .inl (cy2, 100, .inl g2)), (q3, .inl (cy3, 100, .inl g3)), (q5, .inl (cy5, 100, .inl g5)), (q6, .inl (cy6, 100, .inl g6_4))] : va_W)) H := hP
      have hD : va_D A (bL bo B1 B2 B3 B4 G5 G6 G7 ++ ([(h0, .inr (3, [.ref cu, .ref rv, .ref bt, .int (nI bc), .int ho1, .int fe])), (bt, .inl (bc9, 10, .inr (.inr (.inr (.inr (fun j => some (bo j))))))), (q4, .inl (cy4, 100, .inl g4)), (cu, .inr (1, [.ref cu1, .ref cu2, .ref cu3, .ref cu4, .int sc, .int to])), (cu1, .inl (cc1, 8, .inl cf1)), (rv, .inr (5, [.int (nI w), .int (nI h), .ref q1, .ref q2, .ref q3, .ref q4, .ref q5, .ref q6])), (q1, .inl (cy1, 100, .inl g1)), (q2, .inl (cy2, 100, .inl g2)), (q3, .inl (cy3, 100, .inl g3)), (q5, .inl (cy5, 100, .inl g5)), (q6, .inl (cy6, 100, .inl g6_4))] : va_W)) := hD
      have hw_6 : r_5 = 0 ∨ r_5 = 1 := hw
      refine lv_if_eq (tgt := 119) hx hb dX3_passHour_103 (by decide) (fun c_7 => ?_) (fun c_7 => ?_)
      · skip
        exact kx_119 G5 G6 G7 g3 g4 g5 g6_4 n9  H locs (hP.sub [0, 1, 2, 3, 4, 5, 6, 7, 8, 9, 10, 11, 13, 14, 15, 16, 17, 18, 12, 19, 20] rfl) (hD.sub [0, 1, 2, 3, 4, 5, 6, 7, 8, 9, 10, 11, 13, 14, 15, 16, 17, 18, 12, 19, 20] (by decide) rfl) hS ls (lv_sub hl [1] rfl)
      · skip
        refine lv_iload_n hx hb dX3_passHour_106 rfl (lv_at hl 1 rfl) ?_
        refine lv_aload_n hx hb dX3_passHour_107 rfl (lv_at hl 0 rfl) ?_
        refine mc_Vi (rest := [.int n9]) (wr := [(cu, .inr (1, [.ref cu1, .ref cu2, .ref cu3, .ref cu4, .int sc, .int to])), (cu1, .inl (cc1, 8, .inl cf1)), (q1, .inl (cy1, 100, .inl g1)), (q2, .inl (cy2, 100, .inl g2))]) F hK hP hD hS hA (c_breakMarked l D bo B1 B2 B3 B4 h0 cu rv bt bc9 bc ho1 fe q1 q2 q3 q4 q5 q6 cy3 cy4 cy5 cy6 g6_4 w h G5 G6 G7 g3 g4 g5 (by omega) (by omega) (by omega)) ⟨gk_X3_157.1, gk_X3_157.2, Nat.le_of_ble_eq_true rfl, Nat.le_of_ble_eq_true rfl⟩ [0, 1, 2, 3, 4, 5, 6, 7, 8, 9, 10, 11, 15, 18, 12, 19, 20] [13, 14, 16, 17] [0, 4, 5, 6, 7] ⟨rfl, rfl, rfl, rfl, by decide⟩ rfl xT_move (fun _ _ _ => trivial) 10 rfl rfl rfl hl.1 rfl (Nat.le_of_ble_eq_true rfl) dX3_passHour_108 ⟨Nat.le_of_ble_eq_true rfl, Nat.le_of_ble_eq_true rfl⟩ (fun r_14 u H locs hw hK1 hP hD hS => ?_)
        obtain ⟨G5_8, G6_9, G7_10, g3_11, g4_12, g5_13⟩ := u
        have hP := hP.sub (ws' := (bL bo B1 B2 B3 B4 G5_8 G6_9 G7_10 ++ ([(cu, .inr (1, [.ref cu1, .ref cu2, .ref cu3, .ref cu4, .int sc, .int to])), (cu1, .inl (cc1, 8, .inl cf1)), (q1, .inl (cy1, 100, .inl g1)), (q2, .inl (cy2, 100, .inl g2)), (h0, .inr (3, [.ref cu, .ref rv, .ref bt, .int (nI bc), .int ho1, .int fe])), (bt, .inl (bc9, 10, .inr (.inr (.inr (.inr (fun j => some (bo j))))))), (rv, .inr (5, [.int (nI w), .int (nI h), .ref q1, .ref q2, .ref q3, .ref q4, .ref q5, .ref q6])), (q3, .inl (cy3, 100, .inl g3_11)), (q4, .inl (cy4, 100, .inl g4_12)), (q5, .inl (cy5, 100, .inl g5_13)), (q6, .inl (cy6, 100, .inl g6_4))] : va_W))) [4, 5, 6, 7, 8, 9, 10, 11, 12, 13, 0, 1, 2, 3, 14, 15, 16, 17, 18, 19, 20] rfl
        have hD := hD.sub (ws' := (bL bo B1 B2 B3 B4 G5_8 G6_9 G7_10 ++ ([(cu, .inr (1, [.ref cu1, .ref cu2, .ref cu3, .ref cu4, .int sc, .int to])), (cu1, .inl (cc1, 8, .inl cf1)), (q1, .inl (cy1, 100, .inl g1)), (q2, .inl (cy2, 100, .inl g2)), (h0, .inr (3, [.ref cu, .ref rv, .ref bt, .int (nI bc), .int ho1, .int fe])), (bt, .inl (bc9, 10, .inr (.inr (.inr (.inr (fun j => some (bo j))))))), (rv, .inr (5, [.int (nI w), .int (nI h), .ref q1, .ref q2, .ref q3, .ref q4, .ref q5, .ref q6])), (q3, .inl (cy3, 100, .inl g3_11)), (q4, .inl (cy4, 100, .inl g4_12)), (q5, .inl (cy5, 100, .inl g5_13)), (q6, .inl (cy6, 100, .inl g6_4))] : va_W))) [4, 5, 6, 7, 8, 9, 10, 11, 12, 13, 0, 1, 2, 3, 14, 15, 16, 17, 18, 19, 20] (by decide) rfl
        have hw_15 : r_14 = r_14 := hw
        refine lv_iadd hx hb dX3_passHour_111 ?_
        refine lv_topi (fun z_16 ez_16 => ?_)
        refine lv_istore_n (lv' := [(2, .int z_16), (0, .ref h0), (3, .int (nI i))]) hx hb dX3_passHour_112 rfl hl (by decide) rfl (fun ls hl => ?_)
        refine lv_iinc (v := nI (i + 1)) (lv' := [(3, .int (nI (i + 1))), (2, .int z_16), (0, .ref h0)]) hx hb dX3_passHour_113 hl (k := 2) rfl (nI_add i 1) (by decide) rfl (fun ls hl => ?_)
        refine lv_goto (tgt := 83) hx hb dX3_passHour_116 (by decide) ?_
        exact ih G5_8 G6_9 G7_10 g3_11 g4_12 g5_13 g6_4 z_16 (i + 1) (by omega) (by omega) (by omega) (by omega) (by omega) H locs (hP.sub [0, 1, 2, 3, 4, 5, 6, 7, 8, 9, 14, 15, 10, 11, 16, 12, 13, 17, 18, 19, 20] rfl) (hD.sub [0, 1, 2, 3, 4, 5, 6, 7, 8, 9, 14, 15, 10, 11, 16, 12, 13, 17, 18, 19, 20] (by decide) rfl) hS ls (lv_sub hl [2, 1, 0] rfl)
theorem dX3_passHour_0 : decode cX3_passHour 0 = .ok (.aload_n 0, 1) := by decide +kernel
theorem dX3_passHour_1 : decode cX3_passHour 1 = .ok (.dup, 1) := by decide +kernel
theorem kw_1_230 : Cond.fieldLink RX3 40 "IceFair$Fair" "hours" "I" ∈ gw := gw_t1 (List.mem_of_getElem? (i := 230) (by decide +kernel)) (by decide +kernel)
theorem dX3_passHour_2 : decode cX3_passHour 2 = .ok (.getfield 40, 3) := by decide +kernel
theorem dX3_passHour_5 : decode cX3_passHour 5 = .ok (.iconst 1, 1) := by decide +kernel
theorem dX3_passHour_6 : decode cX3_passHour 6 = .ok (.iadd, 1) := by decide +kernel
theorem dX3_passHour_7 : decode cX3_passHour 7 = .ok (.putfield 40, 3) := by decide +kernel
theorem dX3_passHour_10 : decode cX3_passHour 10 = .ok (.aload_n 0, 1) := by decide +kernel
theorem dX3_passHour_11 : decode cX3_passHour 11 = .ok (.getfield 21, 3) := by decide +kernel
theorem dX3_passHour_14 : decode cX3_passHour 14 = .ok (.aload_n 0, 1) := by decide +kernel
theorem dX3_passHour_15 : decode cX3_passHour 15 = .ok (.getfield 12, 3) := by decide +kernel
theorem kw_3_130 : Cond.methodLink RX3 135 yX1_heal ∈ gw := gw_t3 (List.mem_of_getElem? (i := 130) (by decide +kernel)) (by decide +kernel)
theorem kw_3_131 : Cond.instanceMethod yX1_heal ∈ gw := gw_t3 (List.mem_of_getElem? (i := 131) (by decide +kernel)) (by decide +kernel)
theorem kw_3_132 : Cond.selects RX1 yX1_heal yX1_heal ∈ gw := gw_t3 (List.mem_of_getElem? (i := 132) (by decide +kernel)) (by decide +kernel)
theorem kw_3_133 : Cond.code yX1_heal cX1_heal 1 (some .int) ∈ gw := gw_t3 (List.mem_of_getElem? (i := 133) (by decide +kernel)) (by decide +kernel)
theorem gk_X3_135 : GoodIn gw (wsV RX3 135 RX1 yX1_heal (.code yX1_heal cX1_heal 1 (some .int) :: gw)) ∧ (yX1_heal.cls = RX1 ∧ yX1_heal.cls ≠ "java/lang/invoke/MethodHandle" ∧ yX1_heal.cls ≠ "java/lang/invoke/VarHandle" ∧ (parseMethodDescriptor yX1_heal.desc).map (fun d => d.parameters.length) = some 0) := ⟨gi_V kw_3_130 kw_3_131 kw_3_132 kw_1_4 kw_3_133, by decide +kernel⟩
theorem dX3_passHour_18 : decode cX3_passHour 18 = .ok (.invokevirtual 135, 3) := by decide +kernel
theorem kw_3_134 : Cond.methodLink RX3 138 yX6_healFrom ∈ gw := gw_t3 (List.mem_of_getElem? (i := 134) (by decide +kernel)) (by decide +kernel)
theorem kw_3_135 : Cond.instanceMethod yX6_healFrom ∈ gw := gw_t3 (List.mem_of_getElem? (i := 135) (by decide +kernel)) (by decide +kernel)
theorem kw_3_136 : Cond.selects RX6 yX6_healFrom yX6_healFrom ∈ gw := gw_t3 (List.mem_of_getElem? (i := 136) (by decide +kernel)) (by decide +kernel)
theorem kw_3_137 : Cond.code yX6_healFrom cX6_healFrom 3 none ∈ gw := gw_t3 (List.mem_of_getElem? (i := 137) (by decide +kernel)) (by decide +kernel)
theorem gk_X3_138 : GoodIn gw (wsV RX3 138 RX6 yX6_healFrom (.code yX6_healFrom cX6_healFrom 3 none :: gw)) ∧ (yX6_healFrom.cls = RX6 ∧ yX6_healFrom.cls ≠ "java/lang/invoke/MethodHandle" ∧ yX6_healFrom.cls ≠ "java/lang/invoke/VarHandle" ∧ (parseMethodDescriptor yX6_healFrom.desc).map (fun d => d.parameters.length) = some 1) := ⟨gi_V kw_3_134 kw_3_135 kw_3_136 kw_1_7 kw_3_137, by decide +kernel⟩
theorem dX3_passHour_21 : decode cX3_passHour 21 = .ok (.invokevirtual 138, 3) := by decide +kernel
theorem dX3_passHour_24 : decode cX3_passHour 24 = .ok (.iconst 0, 1) := by decide +kernel
theorem dX3_passHour_25 : decode cX3_passHour 25 = .ok (.istore_n 2, 1) := by decide +kernel
theorem dX3_passHour_79 : decode cX3_passHour 79 = .ok (.iconst 0, 1) := by decide +kernel
theorem dX3_passHour_80 : decode cX3_passHour 80 = .ok (.istore_n 2, 1) := by decide +kernel
theorem dX3_passHour_81 : decode cX3_passHour 81 = .ok (.iconst 0, 1) := by decide +kernel
theorem dX3_passHour_82 : decode cX3_passHour 82 = .ok (.istore_n 3, 1) := by decide +kernel
theorem dX3_passHour_119 : decode cX3_passHour 119 = .ok (.iload_n 2, 1) := by decide +kernel
theorem dX3_passHour_120 : decode cX3_passHour 120 = .ok (.ireturn, 1) := by decide +kernel
set_option maxHeartbeats 4000000 in
set_option maxRecDepth 100000 in
theorem c_passHour (l : Launch) (D : va_G) (bo : Nat → Nat) (B1 : Nat → Int32) (B2 : Nat → Int32) (B3 : Nat → Int32) (B4 : Nat → Int32) (h0 : Nat) (cu : Nat) (rv : Nat) (bt : Nat) (bc9 : ClassId) (bc : Nat) (fe : Int32) (cu1 : Nat) (cu2 : Nat) (cu3 : Nat) (cu4 : Nat) (cc1 : ClassId) (cf1 : Nat → Int32) (sc : Int32) (to : Int32) (q1 : Nat) (q2 : Nat) (q3 : Nat) (q4 : Nat) (q5 : Nat) (q6 : Nat) (cy1 : ClassId) (cy2 : ClassId) (cy3 : ClassId) (cy4 : ClassId) (cy5 : ClassId) (cy6 : ClassId) (w : Nat) (h : Nat) (co : Int32) (ho : Int32) (B5 : Nat → Int32) (B6 : Nat → Int32) (B7 : Nat → Int32) (f1 : Nat → Int32) (f2 : Nat → Int32) (f3 : Nat → Int32) (f4 : Nat → Int32) (f5 : Nat → Int32) (f6 : Nat → Int32) (hbc : bc ≤ 10) (h3 : w ≤ 10) (h4 : h ≤ 10) : cI l yX3_passHour (.code yX3_passHour cX3_passHour 4 (some .int)) ({ frames := 5, cells := 0, slots := 0, locals := 115 }) D [(bc9, .object RX0), (cc1, .int), (cy1, .int), (cy2, .int), (cy3, .int), (cy4, .int), (cy5, .boolean), (cy6, .boolean)] (bL bo B1 B2 B3 B4 B5 B6 B7 ++ ([(h0, .inr (3, [.ref cu, .ref rv, .ref bt, .int (nI bc), .int ho, .int fe])), (bt, .inl (bc9, 10, .inr (.inr (.inr (.inr (fun j => some (bo j))))))), (cu, .inr (1, [.ref cu1, .ref cu2, .ref cu3, .ref cu4, .int sc, .int to])), (cu1, .inl (cc1, 8, .inl cf1)), (rv, .inr (5, [.int (nI w), .int (nI h), .ref q1, .ref q2, .ref q3, .ref q4, .ref q5, .ref q6])), (q1, .inl (cy1, 100, .inl f1)), (q2, .inl (cy2, 100, .inl f2)), (q3, .inl (cy3, 100, .inl f3)), (q4, .inl (cy4, 100, .inl f4)), (q5, .inl (cy5, 100, .inl f5)), (q6, .inl (cy6, 100, .inl f6))] : va_W)) xT [.ref h0, .int co] (S := Int32 × (Nat → Int32) × (Nat → Int32) × (Nat → Int32) × (Nat → Int32) × (Nat → Int32) × (Nat → Int32) × (Nat → Int32) × (Nat → Int32) × (Nat → Int32)) (fun r u => match u with | (ho1, G5, G6, G7, g1, g2, g3, g4, g5, g6) => r = r) (fun u => match u with | (ho1, G5, G6, G7, g1, g2, g3, g4, g5, g6) => []) (fun u => match u with | (ho1, G5, G6, G7, g1, g2, g3, g4, g5, g6) => (bL bo B1 B2 B3 B4 G5 G6 G7 ++ ([(h0, .inr (3, [.ref cu, .ref rv, .ref bt, .int (nI bc), .int ho1, .int fe])), (bt, .inl (bc9, 10, .inr (.inr (.inr (.inr (fun j => some (bo j))))))), (cu, .inr (1, [.ref cu1, .ref cu2, .ref cu3, .ref cu4, .int sc, .int to])), (cu1, .inl (cc1, 8, .inl cf1)), (rv, .inr (5, [.int (nI w), .int (nI h), .ref q1, .ref q2, .ref q3, .ref q4, .ref q5, .ref q6])), (q1, .inl (cy1, 100, .inl g1)), (q2, .inl (cy2, 100, .inl g2)), (q3, .inl (cy3, 100, .inl g3)), (q4, .inl (cy4, 100, .inl g4)), (q5, .inl (cy5, 100, .inl g5)), (q6, .inl (cy6, 100, .inl g6))] : va_W))) := by
  intro sz
  refine Met.ofW (cc := cX3_passHour) (maxL := 4) (ret := (some .int)) (by decide) rfl ?_
  intro p e s m args below meth c s₁ B hml hv
  obtain ⟨rfl, hsz, hP, hK, hD0, hX⟩ := hv
  have hx := B.exec
  have hb := B.bytes
  have hr := B.returns
  have hts0 := atoms_spec (ws := .code yX3_passHour cX3_passHour 4 (some .int) :: gw) B.pre
  have hts := fun (w : Cond) (h : w ∈ gw) => hts0 w (List.mem_cons_of_mem _ h)
  have hown : s.vm.findClass RX3 = some m.cls := findClass_of_methodNamed B.named
  have hlocks := B.notSynchronized
  have F : mFix p s m _ c cX3_passHour 4 RX3 := ⟨hx, hb, hml, hown, hts⟩
  subst hsz
  have hD := hD0.self (sz := s.heap.size)
  generalize hAe : va_A (bL bo B1 B2 B3 B4 B5 B6 B7 ++ ([(h0, .inr (3, [.ref cu, .ref rv, .ref bt, .int (nI bc), .int ho, .int fe])), (bt, .inl (bc9, 10, .inr (.inr (.inr (.inr (fun j => some (bo j))))))), (cu, .inr (1, [.ref cu1, .ref cu2, .ref cu3, .ref cu4, .int sc, .int to])), (cu1, .inl (cc1, 8, .inl cf1)), (rv, .inr (5, [.int (nI w), .int (nI h), .ref q1, .ref q2, .ref q3, .ref q4, .ref q5, .ref q6])), (q1, .inl (cy1, 100, .inl f1)), (q2, .inl (cy2, 100, .inl f2)), (q3, .inl (cy3, 100, .inl f3)), (q4, .inl (cy4, 100, .inl f4)), (q5, .inl (cy5, 100, .inl f5)), (q6, .inl (cy6, 100, .inl f6))] : va_W)) s.heap.size = A at hD hX ⊢
  have hA : ∀ q : Nat, s.heap.size ≤ q → A q := fun q h => by rw [← hAe]; exact Or.inr h
  have hS : va_S A s.heap s.heap [] := va_S.rf
  have hl := lv_entry ([.ref h0, .int co]) (n := 4) (Nat.le_of_ble_eq_true rfl)
  rw [lg_entry_eq]
  generalize (lg_sl ([.ref h0, .int co]) ++ List.replicate (4 - (lg_sl ([.ref h0, .int co])).length) Slot.unset).toArray = ls at hl ⊢
  have hl : lv_has ls 4 [(0, .ref h0), (1, .int co)] := hl
  have hP : va_P D vwCl (bL bo B1 B2 B3 B4 B5 B6 B7 ++ ([(h0, .inr (3, [.ref cu, .ref rv, .ref bt, .int (nI bc), .int ho, .int fe])), (bt, .inl (bc9, 10, .inr (.inr (.inr (.inr (fun j => some (bo j))))))), (cu, .inr (1, [.ref cu1, .ref cu2, .ref cu3, .ref cu4, .int sc, .int to])), (cu1, .inl (cc1, 8, .inl cf1)), (rv, .inr (5, [.int (nI w), .int (nI h), .ref q1, .ref q2, .ref q3, .ref q4, .ref q5, .ref q6])), (q1, .inl (cy1, 100, .inl f1)), (q2, .inl (cy2, 100, .inl f2)), (q3, .inl (cy3, 100, .inl f3)), (q4, .inl (cy4, 100, .inl f4)), (q5, .inl (cy5, 100, .inl f5)), (q6, .inl (cy6, 100, .inl f6))] : va_W)) s.heap := hP
  refine lv_aload_n hx hb dX3_passHour_0 rfl (lv_at hl 0 rfl) ?_
  refine lv_dup hx hb dX3_passHour_1 rfl ?_
  refine va_get (D := D) (ci := 3) (v := .int ho) (C := RX3) (T := TX3) (N := 6) hx hb hts inG_X3 hown hK hP 10 rfl rfl 4 (by decide) (hts _ kw_1_230) (fun _ h9 => h9) rfl dX3_passHour_2 ?_
  refine lv_iconst (v := 1) hx hb dX3_passHour_5 (by decide) ?_
  refine lv_iadd hx hb dX3_passHour_6 ?_
  refine lv_topi (fun z_1 ez_1 => ?_)
  refine va_put (D := D) (ci := 3) (v := .int z_1) (ty := .int) (C := RX3) (T := TX3) (N := 6) hx hb hts inG_X3 tyX3 tyX3_ok nmX3 hown hK hP hD hS 10 rfl rfl 4 (by decide) (hts _ kw_1_230) (fun _ h9 => h9) rfl (by decide +kernel) rfl rfl (Nat.le_of_ble_eq_true rfl) dX3_passHour_7 (fun H locs hP hD hS => ?_)
  have hP : va_P D vwCl (bL bo B1 B2 B3 B4 B5 B6 B7 ++ ([(h0, .inr (3, [.ref cu, .ref rv, .ref bt, .int (nI bc), .int z_1, .int fe])), (bt, .inl (bc9, 10, .inr (.inr (.inr (.inr (fun j => some (bo j))))))), (cu, .inr (1, [.ref cu1, .ref cu2, .ref cu3, .ref cu4, .int sc, .int to])), (cu1, .inl (cc1, 8, .inl cf1)), (rv, .inr (5, [.int (nI w), .int (nI h), .ref q1, .ref q2, .ref q3, .ref q4, .ref q5, .ref q6])), (q1, .inl (cy1, 100, .inl f1)), (q2, .inl (cy2, 100, .inl f2)), (q3, .inl (cy3, 100, .inl f3)), (q4, .inl (cy4, 100, .inl f4)), (q5, .inl (cy5, 100, .inl f5)), (q6, .inl (cy6, 100, .inl f6))] : va_W)) H := hP
  have hD : va_D A (bL bo B1 B2 B3 B4 B5 B6 B7 ++ ([(h0, .inr (3, [.ref cu, .ref rv, .ref bt, .int (nI bc), .int z_1, .int fe])), (bt, .inl (bc9, 10, .inr (.inr (.inr (.inr (fun j => some (bo j))))))), (cu, .inr (1, [.ref cu1, .ref cu2, .ref cu3, .ref cu4, .int sc, .int to])), (cu1, .inl (cc1, 8, .inl cf1)), (rv, .inr (5, [.int (nI w), .int (nI h), .ref q1, .ref q2, .ref q3, .ref q4, .ref q5, .ref q6])), (q1, .inl (cy1, 100, .inl f1)), (q2, .inl (cy2, 100, .inl f2)), (q3, .inl (cy3, 100, .inl f3)), (q4, .inl (cy4, 100, .inl f4)), (q5, .inl (cy5, 100, .inl f5)), (q6, .inl (cy6, 100, .inl f6))] : va_W)) := hD
  refine lv_aload_n hx hb dX3_passHour_10 rfl (lv_at hl 0 rfl) ?_
  refine va_get (D := D) (ci := 3) (v := .ref rv) (C := RX3) (T := TX3) (N := 6) hx hb hts inG_X3 hown hK hP 10 rfl rfl 1 (by decide) (hts _ kw_1_219) (fun _ h9 => h9) rfl dX3_passHour_11 ?_
  refine lv_aload_n hx hb dX3_passHour_14 rfl (lv_at hl 0 rfl) ?_
  refine va_get (D := D) (ci := 3) (v := .ref cu) (C := RX3) (T := TX3) (N := 6) hx hb hts inG_X3 hown hK hP 10 rfl rfl 0 (by decide) (hts _ kw_1_215) (fun _ h9 => h9) rfl dX3_passHour_15 ?_
  refine mc_Vi (rest := [.ref rv]) (wr := (bL bo B1 B2 B3 B4 B5 B6 B7 ++ ([(h0, .inr (3, [.ref cu, .ref rv, .ref bt, .int (nI bc), .int z_1, .int fe])), (bt, .inl (bc9, 10, .inr (.inr (.inr (.inr (fun j => some (bo j))))))), (rv, .inr (5, [.int (nI w), .int (nI h), .ref q1, .ref q2, .ref q3, .ref q4, .ref q5, .ref q6])), (q1, .inl (cy1, 100, .inl f1)), (q2, .inl (cy2, 100, .inl f2)), (q3, .inl (cy3, 100, .inl f3)), (q4, .inl (cy4, 100, .inl f4)), (q5, .inl (cy5, 100, .inl f5)), (q6, .inl (cy6, 100, .inl f6))] : va_W))) F hK hP hD hS hA (c_cu_heal l D cu cu1 cu2 cu3 cu4 cc1 cf1 sc to ) ⟨gk_X3_135.1, gk_X3_135.2, Nat.le_of_ble_eq_true rfl, Nat.le_of_ble_eq_true rfl⟩ [12, 13] [0, 1, 2, 3, 4, 5, 6, 7, 8, 9, 10, 11, 14, 15, 16, 17, 18, 19, 20] [1] ⟨rfl, rfl, rfl, rfl, by decide⟩ rfl xT_move (fun _ _ _ => trivial) 12 rfl rfl rfl hl.1 rfl (Nat.le_of_ble_eq_true rfl) dX3_passHour_18 ⟨Nat.le_of_ble_eq_true rfl, Nat.le_of_ble_eq_true rfl⟩ (fun r_2 _ H locs hw hK1 hP hD hS => ?_)
  have hP : va_P D vwCl (bL bo B1 B2 B3 B4 B5 B6 B7 ++ ([(h0, .inr (3, [.ref cu, .ref rv, .ref bt, .int (nI bc), .int z_1, .int fe])), (bt, .inl (bc9, 10, .inr (.inr (.inr (.inr (fun j => some (bo j))))))), (rv, .inr (5, [.int (nI w), .int (nI h), .ref q1, .ref q2, .ref q3, .ref q4, .ref q5, .ref q6])), (q1, .inl (cy1, 100, .inl f1)), (q2, .inl (cy2, 100, .inl f2)), (q3, .inl (cy3, 100, .inl f3)), (q4, .inl (cy4, 100, .inl f4)), (q5, .inl (cy5, 100, .inl f5)), (q6, .inl (cy6, 100, .inl f6)), (cu, .inr (1, [.ref cu1, .ref cu2, .ref cu3, .ref cu4, .int sc, .int to])), (cu1, .inl (cc1, 8, .inl cf1))] : va_W)) H := hP
  have hD : va_D A (bL bo B1 B2 B3 B4 B5 B6 B7 ++ ([(h0, .inr (3, [.ref cu, .ref rv, .ref bt, .int (nI bc), .int z_1, .int fe])), (bt, .inl (bc9, 10, .inr (.inr (.inr (.inr (fun j => some (bo j))))))), (rv, .inr (5, [.int (nI w), .int (nI h), .ref q1, .ref q2, .ref q3, .ref q4, .ref q5, .ref q6])), (q1, .inl (cy1, 100, .inl f1)), (q2, .inl (cy2, 100, .inl f2)), (q3, .inl (cy3, 100, .inl f3)), (q4, .inl (cy4, 100, .inl f4)), (q5, .inl (cy5, 100, .inl f5)), (q6, .inl (cy6, 100, .inl f6)), (cu, .inr (1, [.ref cu1, .ref cu2, .ref cu3, .ref cu4, .int sc, .int to])), (cu1, .inl (cc1, 8, .inl cf1))] : va_W)) := hD
  have hw_3 : r_2 = cf1 5 := hw
  refine mc_Vv (rest := []) (wr := (bL bo B1 B2 B3 B4 B5 B6 B7 ++ ([(h0, .inr (3, [.ref cu, .ref rv, .ref bt, .int (nI bc), .int z_1, .int fe])), (bt, .inl (bc9, 10, .inr (.inr (.inr (.inr (fun j => some (bo j))))))), (q2, .inl (cy2, 100, .inl f2)), (q3, .inl (cy3, 100, .inl f3)), (q4, .inl (cy4, 100, .inl f4)), (q6, .inl (cy6, 100, .inl f6)), (cu, .inr (1, [.ref cu1, .ref cu2, .ref cu3, .ref cu4, .int sc, .int to])), (cu1, .inl (cc1, 8, .inl cf1))] : va_W))) F hK hP hD hS hA (c_healFrom l D rv q1 q2 q3 q4 q5 q6 cy1 cy5 f1 f5 w h r_2 ) ⟨gk_X3_138.1, gk_X3_138.2, Nat.le_of_ble_eq_true rfl, Nat.le_of_ble_eq_true rfl⟩ [12, 13, 17] [0, 1, 2, 3, 4, 5, 6, 7, 8, 9, 10, 11, 14, 15, 16, 18, 19, 20] [2, 6] ⟨rfl, rfl, rfl, rfl, by decide⟩ rfl xT_move (fun _ _ _ => trivial) 12 rfl rfl rfl hl.1 rfl (Nat.le_of_ble_eq_true rfl) dX3_passHour_21 ⟨Nat.le_of_ble_eq_true rfl, Nat.le_of_ble_eq_true rfl⟩ (fun g5_4 H locs hw hK1 hP hD hS => ?_)
  have hP : va_P D vwCl (bL bo B1 B2 B3 B4 B5 B6 B7 ++ ([(h0, .inr (3, [.ref cu, .ref rv, .ref bt, .int (nI bc), .int z_1, .int fe])), (bt, .inl (bc9, 10, .inr (.inr (.inr (.inr (fun j => some (bo j))))))), (q2, .inl (cy2, 100, .inl f2)), (q3, .inl (cy3, 100, .inl f3)), (q4, .inl (cy4, 100, .inl f4)), (q6, .inl (cy6, 100, .inl f6)), (cu, .inr (1, [.ref cu1, .ref cu2, .ref cu3, .ref cu4, .int sc, .int to])), (cu1, .inl (cc1, 8, .inl cf1)), (rv, .inr (5, [.int (nI w), .int (nI h), .ref q1, .ref q2, .ref q3, .ref q4, .ref q5, .ref q6])), (q1, .inl (cy1, 100, .inl f1)), (q5, .inl (cy5, 100, .inl g5_4))] : va_W)) H := hP
  have hD : va_D A (bL bo B1 B2 B3 B4 B5 B6 B7 ++ ([(h0, .inr (3, [.ref cu, .ref rv, .ref bt, .int (nI bc), .int z_1, .int fe])), (bt, .inl (bc9, 10, .inr (.inr (.inr (.inr (fun j => some (bo j))))))), (q2, .inl (cy2, 100, .inl f2)), (q3, .inl (cy3, 100, .inl f3)), (q4, .inl (cy4, 100, .inl f4)), (q6, .inl (cy6, 100, .inl f6)), (cu, .inr (1, [.ref cu1, .ref cu2, .ref cu3, .ref cu4, .int sc, .int to])), (cu1, .inl (cc1, 8, .inl cf1)), (rv, .inr (5, [.int (nI w), .int (nI h), .ref q1, .ref q2, .ref q3, .ref q4, .ref q5, .ref q6])), (q1, .inl (cy1, 100, .inl f1)), (q5, .inl (cy5, 100, .inl g5_4))] : va_W)) := hD
  refine lv_iconst (v := 0) hx hb dX3_passHour_24 (by decide) ?_
  refine lv_istore_n (lv' := [(2, .int 0), (0, .ref h0), (1, .int co)]) hx hb dX3_passHour_25 rfl hl (by decide) rfl (fun ls hl => ?_)
  refine lp_hour_out F hA bo B1 B2 B3 B4 h0 cu rv bt bc9 bc fe cu1 cu2 cu3 cu4 cc1 cf1 sc to q1 q2 q3 q4 q5 q6 cy1 cy2 cy3 cy4 cy5 cy6 w h co z_1 B5 B6 B7 f3 f4 g5_4 f6 (hK.sub [0, 1, 2, 3, 4, 5, 6, 7] rfl) (fun g1_7 g2_8  H locs hP hD hS ls hl => ?_) _ f1 f2 0 (by omega) (by omega) (by omega) (by omega) (Nat.lt_succ_self _) _ _ (hP.sub [0, 1, 2, 3, 4, 5, 6, 7, 8, 9, 10, 11, 16, 17, 18, 19, 12, 13, 14, 20, 15] rfl) (hD.sub [0, 1, 2, 3, 4, 5, 6, 7, 8, 9, 10, 11, 16, 17, 18, 19, 12, 13, 14, 20, 15] (by decide) rfl) hS ls (lv_sub hl [1, 2, 0] rfl)
  refine lv_iconst (v := 0) hx hb dX3_passHour_79 (by decide) ?_
  refine lv_istore_n (lv' := [(2, .int 0), (0, .ref h0), (1, .int co)]) hx hb dX3_passHour_80 rfl hl (by decide) rfl (fun ls hl => ?_)
  refine lv_iconst (v := 0) hx hb dX3_passHour_81 (by decide) ?_
  refine lv_istore_n (lv' := [(3, .int 0), (2, .int 0), (0, .ref h0), (1, .int co)]) hx hb dX3_passHour_82 rfl hl (by decide) rfl (fun ls hl => ?_)
  refine lp_hour_rounds F hA bo B1 B2 B3 B4 h0 cu rv bt bc9 bc fe cu1 cu2 cu3 cu4 cc1 cf1 sc to q1 q2 q3 q4 q5 q6 cy1 cy2 cy3 cy4 cy5 cy6 w h co z_1 g1_7 g2_8 (hK.sub [0, 1, 2, 3, 4, 5, 6, 7] rfl) (fun G5_9 G6_10 G7_11 g3_12 g4_13 g5_14 g6_15 n9_16  H locs hP hD hS ls hl => ?_) _ B5 B6 B7 f3 f4 g5_4 f6 0 0 (by omega) (by omega) (by omega) (by omega) (Nat.lt_succ_self _) _ _ (hP.sub [0, 1, 2, 3, 4, 5, 6, 7, 8, 9, 10, 11, 12, 13, 14, 15, 16, 17, 18, 19, 20] rfl) (hD.sub [0, 1, 2, 3, 4, 5, 6, 7, 8, 9, 10, 11, 12, 13, 14, 15, 16, 17, 18, 19, 20] (by decide) rfl) hS ls (lv_sub hl [2, 1, 0] rfl)
  refine lv_iload_n hx hb dX3_passHour_119 rfl (lv_at hl 0 rfl) ?_
  have hP9 := hP.sub (ws' := (bL bo B1 B2 B3 B4 G5_9 G6_10 G7_11 ++ ([(h0, .inr (3, [.ref cu, .ref rv, .ref bt, .int (nI bc), .int z_1, .int fe])), (bt, .inl (bc9, 10, .inr (.inr (.inr (.inr (fun j => some (bo j))))))), (cu, .inr (1, [.ref cu1, .ref cu2, .ref cu3, .ref cu4, .int sc, .int to])), (cu1, .inl (cc1, 8, .inl cf1)), (rv, .inr (5, [.int (nI w), .int (nI h), .ref q1, .ref q2, .ref q3, .ref q4, .ref q5, .ref q6])), (q1, .inl (cy1, 100, .inl g1_7)), (q2, .inl (cy2, 100, .inl g2_8)), (q3, .inl (cy3, 100, .inl g3_12)), (q4, .inl (cy4, 100, .inl g4_13)), (q5, .inl (cy5, 100, .inl g5_14)), (q6, .inl (cy6, 100, .inl g6_15))] : va_W))) [0, 1, 2, 3, 4, 5, 6, 7, 8, 9, 10, 11, 12, 13, 14, 15, 16, 17, 18, 19, 20] rfl
  have hD9 := hD.sub (ws' := (bL bo B1 B2 B3 B4 G5_9 G6_10 G7_11 ++ ([(h0, .inr (3, [.ref cu, .ref rv, .ref bt, .int (nI bc), .int z_1, .int fe])), (bt, .inl (bc9, 10, .inr (.inr (.inr (.inr (fun j => some (bo j))))))), (cu, .inr (1, [.ref cu1, .ref cu2, .ref cu3, .ref cu4, .int sc, .int to])), (cu1, .inl (cc1, 8, .inl cf1)), (rv, .inr (5, [.int (nI w), .int (nI h), .ref q1, .ref q2, .ref q3, .ref q4, .ref q5, .ref q6])), (q1, .inl (cy1, 100, .inl g1_7)), (q2, .inl (cy2, 100, .inl g2_8)), (q3, .inl (cy3, 100, .inl g3_12)), (q4, .inl (cy4, 100, .inl g4_13)), (q5, .inl (cy5, 100, .inl g5_14)), (q6, .inl (cy6, 100, .inl g6_15))] : va_W))) [0, 1, 2, 3, 4, 5, 6, 7, 8, 9, 10, 11, 12, 13, 14, 15, 16, 17, 18, 19, 20] (by decide) rfl
  have hK9 := hK.sub (tys' := []) [] rfl
  refine W.widen (k := 0) (n := 0) (by decide) (by decide) ?_
  exact W.iret (v := n9_16) hx hb hr (fun t ht hW => ⟨⟨n9_16, (z_1, G5_9, G6_10, G7_11, g1_7, g2_8, g3_12, g4_13, g5_14, g6_15), rfl, rfl, by rw [ht]; exact hP9, va_K.moved hW.alike hK9, hD9⟩, hS.F ht⟩) hS.2.2 dX3_passHour_120
