theorem dX3_boothNumbered_0 : decode cX3_boothNumbered 0 = .ok (.iload_n 1, 1) := by decide +kernel
theorem dX3_boothNumbered_1 : decode cX3_boothNumbered 1 = .ok (.ifCond .lt 17, 3) := by decide +kernel
theorem dX3_boothNumbered_18 : decode cX3_boothNumbered 18 = .ok (.aconst_null, 1) := by decide +kernel
theorem dX3_boothNumbered_19 : decode cX3_boothNumbered 19 = .ok (.areturn, 1) := by decide +kernel
theorem dX3_boothNumbered_4 : decode cX3_boothNumbered 4 = .ok (.iload_n 1, 1) := by decide +kernel
theorem dX3_boothNumbered_5 : decode cX3_boothNumbered 5 = .ok (.aload_n 0, 1) := by decide +kernel
theorem dX3_boothNumbered_6 : decode cX3_boothNumbered 6 = .ok (.getfield 36, 3) := by decide +kernel
theorem dX3_boothNumbered_9 : decode cX3_boothNumbered 9 = .ok (.if_icmp .ge 9, 3) := by decide +kernel
set_option maxHeartbeats 4000000 in
set_option maxRecDepth 100000 in
theorem c_boothNone (l : Launch) (D : va_G) (h0 : Nat) (cu : Nat) (rv : Nat) (bt : Nat) (ho : Int32) (fe : Int32) (x : Int32) : cQ l yX3_boothNumbered (.code yX3_boothNumbered cX3_boothNumbered 2 (some (.object "IceFair$Booth"))) ({ frames := 0, cells := 0, slots := 0, locals := 0 }) D [] [(h0, .inr (3, [.ref cu, .ref rv, .ref bt, .int 0, .int ho, .int fe]))] xT [.ref h0, .int x] (S := Unit) (fun r _ => r = none) (fun _ => []) (fun _ => [(h0, .inr (3, [.ref cu, .ref rv, .ref bt, .int 0, .int ho, .int fe]))]) := by
  intro sz
  refine Met.ofW (cc := cX3_boothNumbered) (maxL := 2) (ret := (some (.object "IceFair$Booth"))) (by decide) rfl ?_
  intro p e s m args below meth c s₁ B hml hv
  obtain ⟨rfl, hsz, hP, hK, hD0, hX⟩ := hv
  have hx := B.exec
  have hb := B.bytes
  have hr := B.returns
  have hts0 := atoms_spec (ws := .code yX3_boothNumbered cX3_boothNumbered 2 (some (.object "IceFair$Booth")) :: gw) B.pre
  have hts := fun (w : Cond) (h : w ∈ gw) => hts0 w (List.mem_cons_of_mem _ h)
  have hown : s.vm.findClass RX3 = some m.cls := findClass_of_methodNamed B.named
  have hlocks := B.notSynchronized
  have F : mFix p s m _ c cX3_boothNumbered 2 RX3 := ⟨hx, hb, hml, hown, hts⟩
  subst hsz
  have hD := hD0.self (sz := s.heap.size)
  generalize hAe : va_A [(h0, .inr (3, [.ref cu, .ref rv, .ref bt, .int 0, .int ho, .int fe]))] s.heap.size = A at hD hX ⊢
  have hA : ∀ q : Nat, s.heap.size ≤ q → A q := fun q h => by rw [← hAe]; exact Or.inr h
  have hS : va_S A s.heap s.heap [] := va_S.rf
  have hl := lv_entry ([.ref h0, .int x]) (n := 2) (Nat.le_of_ble_eq_true rfl)
  rw [lg_entry_eq]
  generalize (lg_sl ([.ref h0, .int x]) ++ List.replicate (2 - (lg_sl ([.ref h0, .int x])).length) Slot.unset).toArray = ls at hl ⊢
  have hl : lv_has ls 2 [(0, .ref h0), (1, .int x)] := hl
  have hP : va_P D vwCl [(h0, .inr (3, [.ref cu, .ref rv, .ref bt, .int 0, .int ho, .int fe]))] s.heap := hP
  refine lv_iload_n hx hb dX3_boothNumbered_0 rfl (lv_at hl 1 rfl) ?_
  refine lv_if_lt (tgt := 18) hx hb dX3_boothNumbered_1 (by decide) (fun c_1 => ?_) (fun c_1 => ?_)
  · skip
    refine lv_null hx hb dX3_boothNumbered_18 ?_
    have hP9 := hP.sub (ws' := [(h0, .inr (3, [.ref cu, .ref rv, .ref bt, .int 0, .int ho, .int fe]))]) [0] rfl
    have hD9 := hD.sub (ws' := [(h0, .inr (3, [.ref cu, .ref rv, .ref bt, .int 0, .int ho, .int fe]))]) [0] (by decide) rfl
    have hK9 := hK.sub (tys' := []) [] rfl
    refine W.widen (k := 0) (n := 0) (by decide) (by decide) ?_
    exact W.aret (v := .null) hx hb hr (Or.inl ⟨_, rfl⟩) (Or.inl rfl) (fun t ht hW => ⟨⟨none, (), rfl, rfl, by rw [ht]; exact hP9, va_K.moved hW.alike hK9, hD9⟩, hS.F ht⟩) hS.2.2 dX3_boothNumbered_19
  · skip
    refine lv_iload_n hx hb dX3_boothNumbered_4 rfl (lv_at hl 1 rfl) ?_
    refine lv_aload_n hx hb dX3_boothNumbered_5 rfl (lv_at hl 0 rfl) ?_
    refine va_get (D := D) (ci := 3) (v := .int 0) (C := RX3) (T := TX3) (N := 6) hx hb hts inG_X3 hown hK hP 0 rfl rfl 3 (by decide) (hts _ kw_1_226) (fun _ h9 => h9) rfl dX3_boothNumbered_6 ?_
    refine lv_icmp_ge (tgt := 18) hx hb dX3_boothNumbered_9 (by decide) (fun c_2 => ?_) (fun c_2 => absurd (Int32.not_lt.mp c_1) c_2)
    have c_2 := Int32.not_lt.mpr c_2
    refine lv_null hx hb dX3_boothNumbered_18 ?_
    have hP9 := hP.sub (ws' := [(h0, .inr (3, [.ref cu, .ref rv, .ref bt, .int 0, .int ho, .int fe]))]) [0] rfl
    have hD9 := hD.sub (ws' := [(h0, .inr (3, [.ref cu, .ref rv, .ref bt, .int 0, .int ho, .int fe]))]) [0] (by decide) rfl
    have hK9 := hK.sub (tys' := []) [] rfl
    refine W.widen (k := 0) (n := 0) (by decide) (by decide) ?_
    exact W.aret (v := .null) hx hb hr (Or.inl ⟨_, rfl⟩) (Or.inl rfl) (fun t ht hW => ⟨⟨none, (), rfl, rfl, by rw [ht]; exact hP9, va_K.moved hW.alike hK9, hD9⟩, hS.F ht⟩) hS.2.2 dX3_boothNumbered_19
theorem dX3_addBooth_0 : decode cX3_addBooth 0 = .ok (.aload_n 0, 1) := by decide +kernel
theorem dX3_addBooth_1 : decode cX3_addBooth 1 = .ok (.getfield 36, 3) := by decide +kernel
theorem dX3_addBooth_4 : decode cX3_addBooth 4 = .ok (.ifCond .lt 12, 3) := by decide +kernel
theorem dX3_addBooth_7 : decode cX3_addBooth 7 = .ok (.aload_n 0, 1) := by decide +kernel
theorem dX3_addBooth_8 : decode cX3_addBooth 8 = .ok (.getfield 36, 3) := by decide +kernel
theorem dX3_addBooth_11 : decode cX3_addBooth 11 = .ok (.bipush 10, 2) := by decide +kernel
theorem dX3_addBooth_13 : decode cX3_addBooth 13 = .ok (.if_icmp .lt 5, 3) := by decide +kernel
theorem dX3_addBooth_18 : decode cX3_addBooth 18 = .ok (.aload_n 0, 1) := by decide +kernel
theorem dX3_addBooth_19 : decode cX3_addBooth 19 = .ok (.getfield 27, 3) := by decide +kernel
theorem dX3_addBooth_22 : decode cX3_addBooth 22 = .ok (.aload_n 0, 1) := by decide +kernel
theorem dX3_addBooth_23 : decode cX3_addBooth 23 = .ok (.getfield 36, 3) := by decide +kernel
theorem dX3_addBooth_26 : decode cX3_addBooth 26 = .ok (.aaload, 1) := by decide +kernel
theorem dX3_addBooth_27 : decode cX3_addBooth 27 = .ok (.astore 4, 2) := by decide +kernel
theorem dX3_addBooth_29 : decode cX3_addBooth 29 = .ok (.aload 4, 2) := by decide +kernel
theorem dX3_addBooth_31 : decode cX3_addBooth 31 = .ok (.aload_n 0, 1) := by decide +kernel
theorem dX3_addBooth_32 : decode cX3_addBooth 32 = .ok (.getfield 36, 3) := by decide +kernel
theorem kw_1_185 : Cond.fieldLink RX3 46 "IceFair$Booth" "number" "I" ∈ gw := gw_t1 (List.mem_of_getElem? (i := 185) (by decide +kernel)) (by decide +kernel)
theorem dX3_addBooth_35 : decode cX3_addBooth 35 = .ok (.putfield 46, 3) := by decide +kernel
theorem dX3_addBooth_38 : decode cX3_addBooth 38 = .ok (.aload 4, 2) := by decide +kernel
theorem dX3_addBooth_40 : decode cX3_addBooth 40 = .ok (.iload_n 1, 1) := by decide +kernel
theorem kw_1_186 : Cond.fieldLink RX3 49 "IceFair$Booth" "weight" "I" ∈ gw := gw_t1 (List.mem_of_getElem? (i := 186) (by decide +kernel)) (by decide +kernel)
theorem dX3_addBooth_41 : decode cX3_addBooth 41 = .ok (.putfield 49, 3) := by decide +kernel
theorem dX3_addBooth_44 : decode cX3_addBooth 44 = .ok (.aload 4, 2) := by decide +kernel
theorem dX3_addBooth_46 : decode cX3_addBooth 46 = .ok (.iload_n 2, 1) := by decide +kernel
theorem kw_1_187 : Cond.fieldLink RX3 52 "IceFair$Booth" "fire" "Z" ∈ gw := gw_t1 (List.mem_of_getElem? (i := 187) (by decide +kernel)) (by decide +kernel)
theorem dX3_addBooth_47 : decode cX3_addBooth 47 = .ok (.putfield 52, 3) := by decide +kernel
theorem dX3_addBooth_50 : decode cX3_addBooth 50 = .ok (.aload 4, 2) := by decide +kernel
theorem dX3_addBooth_52 : decode cX3_addBooth 52 = .ok (.iload_n 3, 1) := by decide +kernel
theorem kw_1_188 : Cond.fieldLink RX3 56 "IceFair$Booth" "crowd" "I" ∈ gw := gw_t1 (List.mem_of_getElem? (i := 188) (by decide +kernel)) (by decide +kernel)
theorem dX3_addBooth_53 : decode cX3_addBooth 53 = .ok (.putfield 56, 3) := by decide +kernel
theorem dX3_addBooth_56 : decode cX3_addBooth 56 = .ok (.aload 4, 2) := by decide +kernel
theorem dX3_addBooth_58 : decode cX3_addBooth 58 = .ok (.iconst 0, 1) := by decide +kernel
theorem kw_1_192 : Cond.fieldLink RX3 59 "IceFair$Booth" "state" "I" ∈ gw := gw_t1 (List.mem_of_getElem? (i := 192) (by decide +kernel)) (by decide +kernel)
theorem dX3_addBooth_59 : decode cX3_addBooth 59 = .ok (.putfield 59, 3) := by decide +kernel
theorem dX3_addBooth_62 : decode cX3_addBooth 62 = .ok (.aload 4, 2) := by decide +kernel
theorem dX3_addBooth_64 : decode cX3_addBooth 64 = .ok (.iconst (-1), 1) := by decide +kernel
theorem kw_1_195 : Cond.fieldLink RX3 62 "IceFair$Booth" "x" "I" ∈ gw := gw_t1 (List.mem_of_getElem? (i := 195) (by decide +kernel)) (by decide +kernel)
theorem dX3_addBooth_65 : decode cX3_addBooth 65 = .ok (.putfield 62, 3) := by decide +kernel
theorem dX3_addBooth_68 : decode cX3_addBooth 68 = .ok (.aload 4, 2) := by decide +kernel
theorem dX3_addBooth_70 : decode cX3_addBooth 70 = .ok (.iconst (-1), 1) := by decide +kernel
theorem kw_1_198 : Cond.fieldLink RX3 65 "IceFair$Booth" "y" "I" ∈ gw := gw_t1 (List.mem_of_getElem? (i := 198) (by decide +kernel)) (by decide +kernel)
theorem dX3_addBooth_71 : decode cX3_addBooth 71 = .ok (.putfield 65, 3) := by decide +kernel
theorem dX3_addBooth_74 : decode cX3_addBooth 74 = .ok (.aload_n 0, 1) := by decide +kernel
theorem dX3_addBooth_75 : decode cX3_addBooth 75 = .ok (.dup, 1) := by decide +kernel
theorem dX3_addBooth_76 : decode cX3_addBooth 76 = .ok (.getfield 36, 3) := by decide +kernel
theorem dX3_addBooth_79 : decode cX3_addBooth 79 = .ok (.iconst 1, 1) := by decide +kernel
theorem dX3_addBooth_80 : decode cX3_addBooth 80 = .ok (.iadd, 1) := by decide +kernel
theorem dX3_addBooth_81 : decode cX3_addBooth 81 = .ok (.putfield 36, 3) := by decide +kernel
theorem dX3_addBooth_84 : decode cX3_addBooth 84 = .ok (.aload 4, 2) := by decide +kernel
theorem dX3_addBooth_86 : decode cX3_addBooth 86 = .ok (.getfield 46, 3) := by decide +kernel
theorem dX3_addBooth_89 : decode cX3_addBooth 89 = .ok (.ireturn, 1) := by decide +kernel
set_option maxHeartbeats 4000000 in
set_option maxRecDepth 100000 in
theorem c_addBooth (l : Launch) (D : va_G) (h0 : Nat) (cu : Nat) (rv : Nat) (bt : Nat) (bo0 : Nat) (bo1 : Nat) (bo2 : Nat) (bo3 : Nat) (bo4 : Nat) (bo5 : Nat) (bo6 : Nat) (bo7 : Nat) (bo8 : Nat) (bo9 : Nat) (bc : ClassId) (w1 : Int32) (fi : Int32) (cr : Int32) (hf : fi = 0 ∨ fi = 1) : cI l yX3_addBooth (.code yX3_addBooth cX3_addBooth 5 (some .int)) ({ frames := 0, cells := 0, slots := 0, locals := 0 }) D [(bc, .object RX0)] [(h0, .inr (3, [.ref cu, .ref rv, .ref bt, .int 0, .int 0, .int 0])), (bt, .inl (bc, 10, .inr (.inr (.inr (.inr (va_up (va_up (va_up (va_up (va_up (va_up (va_up (va_up (va_up (va_up (fun _ => none) 0 (some bo0)) 1 (some bo1)) 2 (some bo2)) 3 (some bo3)) 4 (some bo4)) 5 (some bo5)) 6 (some bo6)) 7 (some bo7)) 8 (some bo8)) 9 (some bo9))))))), (bo0, .inr (0, [.int 0, .int 0, .int 0, .int 0, .int 0, .int 0, .int 0]))] xT [.ref h0, .int w1, .int fi, .int cr] (S := Unit) (fun r _ => r = 0) (fun _ => []) (fun _ => []) := by
  intro sz
  refine Met.ofW (cc := cX3_addBooth) (maxL := 5) (ret := (some .int)) (by decide) rfl ?_
  intro p e s m args below meth c s₁ B hml hv
  obtain ⟨rfl, hsz, hP, hK, hD0, hX⟩ := hv
  have hx := B.exec
  have hb := B.bytes
  have hr := B.returns
  have hts0 := atoms_spec (ws := .code yX3_addBooth cX3_addBooth 5 (some .int) :: gw) B.pre
  have hts := fun (w : Cond) (h : w ∈ gw) => hts0 w (List.mem_cons_of_mem _ h)
  have hown : s.vm.findClass RX3 = some m.cls := findClass_of_methodNamed B.named
  have hlocks := B.notSynchronized
  have F : mFix p s m _ c cX3_addBooth 5 RX3 := ⟨hx, hb, hml, hown, hts⟩
  subst hsz
  have hD := hD0.self (sz := s.heap.size)
  generalize hAe : va_A [(h0, .inr (3, [.ref cu, .ref rv, .ref bt, .int 0, .int 0, .int 0])), (bt, .inl (bc, 10, .inr (.inr (.inr (.inr (va_up (va_up (va_up (va_up (va_up (va_up (va_up (va_up (va_up (va_up (fun _ => none) 0 (some bo0)) 1 (some bo1)) 2 (some bo2)) 3 (some bo3)) 4 (some bo4)) 5 (some bo5)) 6 (some bo6)) 7 (some bo7)) 8 (some bo8)) 9 (some bo9))))))), (bo0, .inr (0, [.int 0, .int 0, .int 0, .int 0, .int 0, .int 0, .int 0]))] s.heap.size = A at hD hX ⊢
  have hA : ∀ q : Nat, s.heap.size ≤ q → A q := fun q h => by rw [← hAe]; exact Or.inr h
  have hS : va_S A s.heap s.heap [] := va_S.rf
  have hl := lv_entry ([.ref h0, .int w1, .int fi, .int cr]) (n := 5) (Nat.le_of_ble_eq_true rfl)
  rw [lg_entry_eq]
  generalize (lg_sl ([.ref h0, .int w1, .int fi, .int cr]) ++ List.replicate (5 - (lg_sl ([.ref h0, .int w1, .int fi, .int cr])).length) Slot.unset).toArray = ls at hl ⊢
  have hl : lv_has ls 5 [(0, .ref h0), (1, .int w1), (2, .int fi), (3, .int cr)] := hl
  have hP : va_P D vwCl [(h0, .inr (3, [.ref cu, .ref rv, .ref bt, .int 0, .int 0, .int 0])), (bt, .inl (bc, 10, .inr (.inr (.inr (.inr (va_up (va_up (va_up (va_up (va_up (va_up (va_up (va_up (va_up (va_up (fun _ => none) 0 (some bo0)) 1 (some bo1)) 2 (some bo2)) 3 (some bo3)) 4 (some bo4)) 5 (some bo5)) 6 (some bo6)) 7 (some bo7)) 8 (some bo8)) 9 (some bo9))))))), (bo0, .inr (0, [.int 0, .int 0, .int 0, .int 0, .int 0, .int 0, .int 0]))] s.heap := hP
  refine lv_aload_n hx hb dX3_addBooth_0 rfl (lv_at hl 0 rfl) ?_
  refine va_get (D := D) (ci := 3) (v := .int 0) (C := RX3) (T := TX3) (N := 6) hx hb hts inG_X3 hown hK hP 0 rfl rfl 3 (by decide) (hts _ kw_1_226) (fun _ h9 => h9) rfl dX3_addBooth_1 ?_
  refine lv_if_lt (tgt := 16) hx hb dX3_addBooth_4 (by decide) (fun c_1 => absurd c_1 (by decide)) (fun c_1 => ?_)
  refine lv_aload_n hx hb dX3_addBooth_7 rfl (lv_at hl 0 rfl) ?_
  refine va_get (D := D) (ci := 3) (v := .int 0) (C := RX3) (T := TX3) (N := 6) hx hb hts inG_X3 hown hK hP 0 rfl rfl 3 (by decide) (hts _ kw_1_226) (fun _ h9 => h9) rfl dX3_addBooth_8 ?_
  refine lv_bipush (v := 10) hx hb dX3_addBooth_11 (by decide) ?_
  refine lv_icmp_lt (tgt := 18) hx hb dX3_addBooth_13 (by decide) (fun c_2 => ?_) (fun c_2 => absurd c_2 (by decide))
  refine lv_aload_n hx hb dX3_addBooth_18 rfl (lv_at hl 0 rfl) ?_
  refine va_get (D := D) (ci := 3) (v := .ref bt) (C := RX3) (T := TX3) (N := 6) hx hb hts inG_X3 hown hK hP 0 rfl rfl 2 (by decide) (hts _ kw_1_223) (fun _ h9 => h9) rfl dX3_addBooth_19 ?_
  refine lv_aload_n hx hb dX3_addBooth_22 rfl (lv_at hl 0 rfl) ?_
  refine va_get (D := D) (ci := 3) (v := .int 0) (C := RX3) (T := TX3) (N := 6) hx hb hts inG_X3 hown hK hP 0 rfl rfl 3 (by decide) (hts _ kw_1_226) (fun _ h9 => h9) rfl dX3_addBooth_23 ?_
  refine va_aldq hx hb hK hP 1 0 rfl rfl (by unfold vp_in; decide) dX3_addBooth_26 ?_
  refine W.eq (g2 := F0 m 27 ls [.ref bo0]) rfl ?_
  refine lv_astore (lv' := [(4, .ref bo0), (0, .ref h0), (1, .int w1), (2, .int fi), (3, .int cr)]) hx hb dX3_addBooth_27 hl (by decide) rfl (fun ls hl => ?_)
  refine lv_aload hx hb dX3_addBooth_29 (lv_at hl 0 rfl) ?_
  refine lv_aload_n hx hb dX3_addBooth_31 rfl (lv_at hl 1 rfl) ?_
  refine va_get (D := D) (ci := 3) (v := .int 0) (C := RX3) (T := TX3) (N := 6) hx hb hts inG_X3 hown hK hP 0 rfl rfl 3 (by decide) (hts _ kw_1_226) (fun _ h9 => h9) rfl dX3_addBooth_32 ?_
  refine va_put (D := D) (ci := 0) (v := .int 0) (ty := .int) (C := RX0) (T := TX0) (N := 7) hx hb hts inG_X0 tyX0 tyX0_ok nmX0 hown hK hP hD hS 2 rfl rfl 0 (by decide) (hts _ kw_1_185) (fun _ h9 => h9) rfl (by decide +kernel) rfl rfl (Nat.le_of_ble_eq_true rfl) dX3_addBooth_35 (fun H locs hP hD hS => ?_)
  have hP : va_P D vwCl [(h0, .inr (3, [.ref cu, .ref rv, .ref bt, .int 0, .int 0, .int 0])), (bt, .inl (bc, 10, .inr (.inr (.inr (.inr (va_up (va_up (va_up (va_up (va_up (va_up (va_up (va_up (va_up (va_up (fun _ => none) 0 (some bo0)) 1 (some bo1)) 2 (some bo2)) 3 (some bo3)) 4 (some bo4)) 5 (some bo5)) 6 (some bo6)) 7 (some bo7)) 8 (some bo8)) 9 (some bo9))))))), (bo0, .inr (0, [.int 0, .int 0, .int 0, .int 0, .int 0, .int 0, .int 0]))] H := hP
  have hD : va_D A [(h0, .inr (3, [.ref cu, .ref rv, .ref bt, .int 0, .int 0, .int 0])), (bt, .inl (bc, 10, .inr (.inr (.inr (.inr (va_up (va_up (va_up (va_up (va_up (va_up (va_up (va_up (va_up (va_up (fun _ => none) 0 (some bo0)) 1 (some bo1)) 2 (some bo2)) 3 (some bo3)) 4 (some bo4)) 5 (some bo5)) 6 (some bo6)) 7 (some bo7)) 8 (some bo8)) 9 (some bo9))))))), (bo0, .inr (0, [.int 0, .int 0, .int 0, .int 0, .int 0, .int 0, .int 0]))] := hD
  refine lv_aload hx hb dX3_addBooth_38 (lv_at hl 0 rfl) ?_
  refine lv_iload_n hx hb dX3_addBooth_40 rfl (lv_at hl 2 rfl) ?_
  refine va_put (D := D) (ci := 0) (v := .int w1) (ty := .int) (C := RX0) (T := TX0) (N := 7) hx hb hts inG_X0 tyX0 tyX0_ok nmX0 hown hK hP hD hS 2 rfl rfl 1 (by decide) (hts _ kw_1_186) (fun _ h9 => h9) rfl (by decide +kernel) rfl rfl (Nat.le_of_ble_eq_true rfl) dX3_addBooth_41 (fun H locs hP hD hS => ?_)
  have hP : va_P D vwCl [(h0, .inr (3, [.ref cu, .ref rv, .ref bt, .int 0, .int 0, .int 0])), (bt, .inl (bc, 10, .inr (.inr (.inr (.inr (va_up (va_up (va_up (va_up (va_up (va_up (va_up (va_up (va_up (va_up (fun _ => none) 0 (some bo0)) 1 (some bo1)) 2 (some bo2)) 3 (some bo3)) 4 (some bo4)) 5 (some bo5)) 6 (some bo6)) 7 (some bo7)) 8 (some bo8)) 9 (some bo9))))))), (bo0, .inr (0, [.int 0, .int w1, .int 0, .int 0, .int 0, .int 0, .int 0]))] H := hP
  have hD : va_D A [(h0, .inr (3, [.ref cu, .ref rv, .ref bt, .int 0, .int 0, .int 0])), (bt, .inl (bc, 10, .inr (.inr (.inr (.inr (va_up (va_up (va_up (va_up (va_up (va_up (va_up (va_up (va_up (va_up (fun _ => none) 0 (some bo0)) 1 (some bo1)) 2 (some bo2)) 3 (some bo3)) 4 (some bo4)) 5 (some bo5)) 6 (some bo6)) 7 (some bo7)) 8 (some bo8)) 9 (some bo9))))))), (bo0, .inr (0, [.int 0, .int w1, .int 0, .int 0, .int 0, .int 0, .int 0]))] := hD
  refine lv_aload hx hb dX3_addBooth_44 (lv_at hl 0 rfl) ?_
  refine lv_iload_n hx hb dX3_addBooth_46 rfl (lv_at hl 3 rfl) ?_
  refine va_put (D := D) (ci := 0) (v := .int fi) (ty := .boolean) (C := RX0) (T := TX0) (N := 7) hx hb hts inG_X0 tyX0 tyX0_ok nmX0 hown hK hP hD hS 2 rfl rfl 2 (by decide) (hts _ kw_1_187) (fun _ h9 => h9) rfl (by decide +kernel) (by rcases hf with rfl | rfl <;> rfl) (by rcases hf with rfl | rfl <;> rfl) (Nat.le_of_ble_eq_true rfl) dX3_addBooth_47 (fun H locs hP hD hS => ?_)
  have hP : va_P D vwCl [(h0, .inr (3, [.ref cu, .ref rv, .ref bt, .int 0, .int 0, .int 0])), (bt, .inl (bc, 10, .inr (.inr (.inr (.inr (va_up (va_up (va_up (va_up (va_up (va_up (va_up (va_up (va_up (va_up (fun _ => none) 0 (some bo0)) 1 (some bo1)) 2 (some bo2)) 3 (some bo3)) 4 (some bo4)) 5 (some bo5)) 6 (some bo6)) 7 (some bo7)) 8 (some bo8)) 9 (some bo9))))))), (bo0, .inr (0, [.int 0, .int w1, .int fi, .int 0, .int 0, .int 0, .int 0]))] H := hP
  have hD : va_D A [(h0, .inr (3, [.ref cu, .ref rv, .ref bt, .int 0, .int 0, .int 0])), (bt, .inl (bc, 10, .inr (.inr (.inr (.inr (va_up (va_up (va_up (va_up (va_up (va_up (va_up (va_up (va_up (va_up (fun _ => none) 0 (some bo0)) 1 (some bo1)) 2 (some bo2)) 3 (some bo3)) 4 (some bo4)) 5 (some bo5)) 6 (some bo6)) 7 (some bo7)) 8 (some bo8)) 9 (some bo9))))))), (bo0, .inr (0, [.int 0, .int w1, .int fi, .int 0, .int 0, .int 0, .int 0]))] := hD
  refine lv_aload hx hb dX3_addBooth_50 (lv_at hl 0 rfl) ?_
  refine lv_iload_n hx hb dX3_addBooth_52 rfl (lv_at hl 4 rfl) ?_
  refine va_put (D := D) (ci := 0) (v := .int cr) (ty := .int) (C := RX0) (T := TX0) (N := 7) hx hb hts inG_X0 tyX0 tyX0_ok nmX0 hown hK hP hD hS 2 rfl rfl 3 (by decide) (hts _ kw_1_188) (fun _ h9 => h9) rfl (by decide +kernel) rfl rfl (Nat.le_of_ble_eq_true rfl) dX3_addBooth_53 (fun H locs hP hD hS => ?_)
  have hP : va_P D vwCl [(h0, .inr (3, [.ref cu, .ref rv, .ref bt, .int 0, .int 0, .int 0])), (bt, .inl (bc, 10, .inr (.inr (.inr (.inr (va_up (va_up (va_up (va_up (va_up (va_up (va_up (va_up (va_up (va_up (fun _ => none) 0 (some bo0)) 1 (some bo1)) 2 (some bo2)) 3 (some bo3)) 4 (some bo4)) 5 (some bo5)) 6 (some bo6)) 7 (some bo7)) 8 (some bo8)) 9 (some bo9))))))), (bo0, .inr (0, [.int 0, .int w1, .int fi, .int cr, .int 0, .int 0, .int 0]))] H := hP
  have hD : va_D A [(h0, .inr (3, [.ref cu, .ref rv, .ref bt, .int 0, .int 0, .int 0])), (bt, .inl (bc, 10, .inr (.inr (.inr (.inr (va_up (va_up (va_up (va_up (va_up (va_up (va_up (va_up (va_up (va_up (fun _ => none) 0 (some bo0)) 1 (some bo1)) 2 (some bo2)) 3 (some bo3)) 4 (some bo4)) 5 (some bo5)) 6 (some bo6)) 7 (some bo7)) 8 (some bo8)) 9 (some bo9))))))), (bo0, .inr (0, [.int 0, .int w1, .int fi, .int cr, .int 0, .int 0, .int 0]))] := hD
  refine lv_aload hx hb dX3_addBooth_56 (lv_at hl 0 rfl) ?_
  refine lv_iconst (v := 0) hx hb dX3_addBooth_58 (by decide) ?_
  refine va_put (D := D) (ci := 0) (v := .int 0) (ty := .int) (C := RX0) (T := TX0) (N := 7) hx hb hts inG_X0 tyX0 tyX0_ok nmX0 hown hK hP hD hS 2 rfl rfl 4 (by decide) (hts _ kw_1_192) (fun _ h9 => h9) rfl (by decide +kernel) rfl rfl (Nat.le_of_ble_eq_true rfl) dX3_addBooth_59 (fun H locs hP hD hS => ?_)
  have hP : va_P D vwCl [(h0, .inr (3, [.ref cu, .ref rv, .ref bt, .int 0, .int 0, .int 0])), (bt, .inl (bc, 10, .inr (.inr (.inr (.inr (va_up (va_up (va_up (va_up (va_up (va_up (va_up (va_up (va_up (va_up (fun _ => none) 0 (some bo0)) 1 (some bo1)) 2 (some bo2)) 3 (some bo3)) 4 (some bo4)) 5 (some bo5)) 6 (some bo6)) 7 (some bo7)) 8 (some bo8)) 9 (some bo9))))))), (bo0, .inr (0, [.int 0, .int w1, .int fi, .int cr, .int 0, .int 0, .int 0]))] H := hP
  have hD : va_D A [(h0, .inr (3, [.ref cu, .ref rv, .ref bt, .int 0, .int 0, .int 0])), (bt, .inl (bc, 10, .inr (.inr (.inr (.inr (va_up (va_up (va_up (va_up (va_up (va_up (va_up (va_up (va_up (va_up (fun _ => none) 0 (some bo0)) 1 (some bo1)) 2 (some bo2)) 3 (some bo3)) 4 (some bo4)) 5 (some bo5)) 6 (some bo6)) 7 (some bo7)) 8 (some bo8)) 9 (some bo9))))))), (bo0, .inr (0, [.int 0, .int w1, .int fi, .int cr, .int 0, .int 0, .int 0]))] := hD
  refine lv_aload hx hb dX3_addBooth_62 (lv_at hl 0 rfl) ?_
  refine lv_iconst (v := -1) hx hb dX3_addBooth_64 (by decide) ?_
  refine va_put (D := D) (ci := 0) (v := .int ((-1))) (ty := .int) (C := RX0) (T := TX0) (N := 7) hx hb hts inG_X0 tyX0 tyX0_ok nmX0 hown hK hP hD hS 2 rfl rfl 5 (by decide) (hts _ kw_1_195) (fun _ h9 => h9) rfl (by decide +kernel) rfl rfl (Nat.le_of_ble_eq_true rfl) dX3_addBooth_65 (fun H locs hP hD hS => ?_)
  have hP : va_P D vwCl [(h0, .inr (3, [.ref cu, .ref rv, .ref bt, .int 0, .int 0, .int 0])), (bt, .inl (bc, 10, .inr (.inr (.inr (.inr (va_up (va_up (va_up (va_up (va_up (va_up (va_up (va_up (va_up (va_up (fun _ => none) 0 (some bo0)) 1 (some bo1)) 2 (some bo2)) 3 (some bo3)) 4 (some bo4)) 5 (some bo5)) 6 (some bo6)) 7 (some bo7)) 8 (some bo8)) 9 (some bo9))))))), (bo0, .inr (0, [.int 0, .int w1, .int fi, .int cr, .int 0, .int ((-1)), .int 0]))] H := hP
  have hD : va_D A [(h0, .inr (3, [.ref cu, .ref rv, .ref bt, .int 0, .int 0, .int 0])), (bt, .inl (bc, 10, .inr (.inr (.inr (.inr (va_up (va_up (va_up (va_up (va_up (va_up (va_up (va_up (va_up (va_up (fun _ => none) 0 (some bo0)) 1 (some bo1)) 2 (some bo2)) 3 (some bo3)) 4 (some bo4)) 5 (some bo5)) 6 (some bo6)) 7 (some bo7)) 8 (some bo8)) 9 (some bo9))))))), (bo0, .inr (0, [.int 0, .int w1, .int fi, .int cr, .int 0, .int ((-1)), .int 0]))] := hD
  refine lv_aload hx hb dX3_addBooth_68 (lv_at hl 0 rfl) ?_
  refine lv_iconst (v := -1) hx hb dX3_addBooth_70 (by decide) ?_
  refine va_put (D := D) (ci := 0) (v := .int ((-1))) (ty := .int) (C := RX0) (T := TX0) (N := 7) hx hb hts inG_X0 tyX0 tyX0_ok nmX0 hown hK hP hD hS 2 rfl rfl 6 (by decide) (hts _ kw_1_198) (fun _ h9 => h9) rfl (by decide +kernel) rfl rfl (Nat.le_of_ble_eq_true rfl) dX3_addBooth_71 (fun H locs hP hD hS => ?_)
  have hP : va_P D vwCl [(h0, .inr (3, [.ref cu, .ref rv, .ref bt, .int 0, .int 0, .int 0])), (bt, .inl (bc, 10, .inr (.inr (.inr (.inr (va_up (va_up (va_up (va_up (va_up (va_up (va_up (va_up (va_up (va_up (fun _ => none) 0 (some bo0)) 1 (some bo1)) 2 (some bo2)) 3 (some bo3)) 4 (some bo4)) 5 (some bo5)) 6 (some bo6)) 7 (some bo7)) 8 (some bo8)) 9 (some bo9))))))), (bo0, .inr (0, [.int 0, .int w1, .int fi, .int cr, .int 0, .int ((-1)), .int ((-1))]))] H := hP
  have hD : va_D A [(h0, .inr (3, [.ref cu, .ref rv, .ref bt, .int 0, .int 0, .int 0])), (bt, .inl (bc, 10, .inr (.inr (.inr (.inr (va_up (va_up (va_up (va_up (va_up (va_up (va_up (va_up (va_up (va_up (fun _ => none) 0 (some bo0)) 1 (some bo1)) 2 (some bo2)) 3 (some bo3)) 4 (some bo4)) 5 (some bo5)) 6 (some bo6)) 7 (some bo7)) 8 (some bo8)) 9 (some bo9))))))), (bo0, .inr (0, [.int 0, .int w1, .int fi, .int cr, .int 0, .int ((-1)), .int ((-1))]))] := hD
  refine lv_aload_n hx hb dX3_addBooth_74 rfl (lv_at hl 1 rfl) ?_
  refine lv_dup hx hb dX3_addBooth_75 rfl ?_
  refine va_get (D := D) (ci := 3) (v := .int 0) (C := RX3) (T := TX3) (N := 6) hx hb hts inG_X3 hown hK hP 0 rfl rfl 3 (by decide) (hts _ kw_1_226) (fun _ h9 => h9) rfl dX3_addBooth_76 ?_
  refine lv_iconst (v := 1) hx hb dX3_addBooth_79 (by decide) ?_
  refine lv_iadd hx hb dX3_addBooth_80 ?_
  refine lv_topi (fun z_3 ez_3 => ?_)
  obtain rfl : z_3 = (1 : Int32) := ez_3.trans (by decide)
  refine va_put (D := D) (ci := 3) (v := .int 1) (ty := .int) (C := RX3) (T := TX3) (N := 6) hx hb hts inG_X3 tyX3 tyX3_ok nmX3 hown hK hP hD hS 0 rfl rfl 3 (by decide) (hts _ kw_1_226) (fun _ h9 => h9) rfl (by decide +kernel) rfl rfl (Nat.le_of_ble_eq_true rfl) dX3_addBooth_81 (fun H locs hP hD hS => ?_)
  have hP : va_P D vwCl [(h0, .inr (3, [.ref cu, .ref rv, .ref bt, .int 1, .int 0, .int 0])), (bt, .inl (bc, 10, .inr (.inr (.inr (.inr (va_up (va_up (va_up (va_up (va_up (va_up (va_up (va_up (va_up (va_up (fun _ => none) 0 (some bo0)) 1 (some bo1)) 2 (some bo2)) 3 (some bo3)) 4 (some bo4)) 5 (some bo5)) 6 (some bo6)) 7 (some bo7)) 8 (some bo8)) 9 (some bo9))))))), (bo0, .inr (0, [.int 0, .int w1, .int fi, .int cr, .int 0, .int ((-1)), .int ((-1))]))] H := hP
  have hD : va_D A [(h0, .inr (3, [.ref cu, .ref rv, .ref bt, .int 1, .int 0, .int 0])), (bt, .inl (bc, 10, .inr (.inr (.inr (.inr (va_up (va_up (va_up (va_up (va_up (va_up (va_up (va_up (va_up (va_up (fun _ => none) 0 (some bo0)) 1 (some bo1)) 2 (some bo2)) 3 (some bo3)) 4 (some bo4)) 5 (some bo5)) 6 (some bo6)) 7 (some bo7)) 8 (some bo8)) 9 (some bo9))))))), (bo0, .inr (0, [.int 0, .int w1, .int fi, .int cr, .int 0, .int ((-1)), .int ((-1))]))] := hD
  refine lv_aload hx hb dX3_addBooth_84 (lv_at hl 0 rfl) ?_
  refine va_get (D := D) (ci := 0) (v := .int 0) (C := RX0) (T := TX0) (N := 7) hx hb hts inG_X0 hown hK hP 2 rfl rfl 0 (by decide) (hts _ kw_1_185) (fun _ h9 => h9) rfl dX3_addBooth_86 ?_
  have hP9 := hP.sub (ws' := []) [] rfl
  have hD9 := hD.sub (ws' := []) [] (by decide) rfl
  have hK9 := hK.sub (tys' := []) [] rfl
  refine W.widen (k := 0) (n := 0) (by decide) (by decide) ?_
  exact W.iret (v := 0) hx hb hr (fun t ht hW => ⟨⟨0, (), rfl, rfl, by rw [ht]; exact hP9, va_K.moved hW.alike hK9, hD9⟩, hS.F ht⟩) hS.2.2 dX3_addBooth_89
theorem dX9_booth_0 : decode cX9_booth 0 = .ok (.iload_n 1, 1) := by decide +kernel
theorem dX9_booth_1 : decode cX9_booth 1 = .ok (.iconst 1, 1) := by decide +kernel
theorem dX9_booth_2 : decode cX9_booth 2 = .ok (.if_icmp .lt 19, 3) := by decide +kernel
theorem dX9_booth_21 : decode cX9_booth 21 = .ok (.iconst (-1), 1) := by decide +kernel
theorem dX9_booth_22 : decode cX9_booth 22 = .ok (.ireturn, 1) := by decide +kernel
theorem dX9_booth_5 : decode cX9_booth 5 = .ok (.iload_n 1, 1) := by decide +kernel
theorem dX9_booth_6 : decode cX9_booth 6 = .ok (.bipush 50, 2) := by decide +kernel
theorem dX9_booth_8 : decode cX9_booth 8 = .ok (.if_icmp .gt 13, 3) := by decide +kernel
theorem dX9_booth_11 : decode cX9_booth 11 = .ok (.iload_n 3, 1) := by decide +kernel
theorem dX9_booth_12 : decode cX9_booth 12 = .ok (.ifCond .lt 9, 3) := by decide +kernel
theorem dX9_booth_15 : decode cX9_booth 15 = .ok (.iload_n 3, 1) := by decide +kernel
theorem dX9_booth_16 : decode cX9_booth 16 = .ok (.bipush 99, 2) := by decide +kernel
theorem dX9_booth_18 : decode cX9_booth 18 = .ok (.if_icmp .le 5, 3) := by decide +kernel
theorem dX9_booth_23 : decode cX9_booth 23 = .ok (.aload_n 0, 1) := by decide +kernel
theorem dX9_booth_24 : decode cX9_booth 24 = .ok (.getfield 33, 3) := by decide +kernel
theorem dX9_booth_27 : decode cX9_booth 27 = .ok (.iload_n 1, 1) := by decide +kernel
theorem dX9_booth_28 : decode cX9_booth 28 = .ok (.iload_n 2, 1) := by decide +kernel
theorem dX9_booth_29 : decode cX9_booth 29 = .ok (.iload_n 3, 1) := by decide +kernel
theorem kw_3_23 : Cond.methodLink RX9 98 yX3_addBooth ∈ gw := gw_t3 (List.mem_of_getElem? (i := 23) (by decide +kernel)) (by decide +kernel)
theorem kw_3_24 : Cond.instanceMethod yX3_addBooth ∈ gw := gw_t3 (List.mem_of_getElem? (i := 24) (by decide +kernel)) (by decide +kernel)
theorem kw_3_25 : Cond.selects RX3 yX3_addBooth yX3_addBooth ∈ gw := gw_t3 (List.mem_of_getElem? (i := 25) (by decide +kernel)) (by decide +kernel)
theorem kw_3_26 : Cond.code yX3_addBooth cX3_addBooth 5 (some .int) ∈ gw := gw_t3 (List.mem_of_getElem? (i := 26) (by decide +kernel)) (by decide +kernel)
theorem gk_X9_98 : GoodIn gw (wsV RX9 98 RX3 yX3_addBooth (.code yX3_addBooth cX3_addBooth 5 (some .int) :: gw)) ∧ (yX3_addBooth.cls = RX3 ∧ yX3_addBooth.cls ≠ "java/lang/invoke/MethodHandle" ∧ yX3_addBooth.cls ≠ "java/lang/invoke/VarHandle" ∧ (parseMethodDescriptor yX3_addBooth.desc).map (fun d => d.parameters.length) = some 3) := ⟨gi_V kw_3_23 kw_3_24 kw_3_25 kw_1_6 kw_3_26, by decide +kernel⟩
theorem dX9_booth_30 : decode cX9_booth 30 = .ok (.invokevirtual 98, 3) := by decide +kernel
theorem dX9_booth_33 : decode cX9_booth 33 = .ok (.ireturn, 1) := by decide +kernel
set_option maxHeartbeats 4000000 in
set_option maxRecDepth 100000 in
theorem c_booth (l : Launch) (D : va_G) (h0 : Nat) (tp : Nat) (rd : Nat) (dr : Nat) (fa : Nat) (ly : Nat) (wy : Nat) (cu : Nat) (rv : Nat) (bt : Nat) (bo0 : Nat) (bo1 : Nat) (bo2 : Nat) (bo3 : Nat) (bo4 : Nat) (bo5 : Nat) (bo6 : Nat) (bo7 : Nat) (bo8 : Nat) (bo9 : Nat) (bc : ClassId) (w1 : Int32) (fi : Int32) (cr : Int32) (hf : fi = 0 ∨ fi = 1) : cI l yX9_booth (.code yX9_booth cX9_booth 4 (some .int)) ({ frames := 1, cells := 0, slots := 0, locals := 24 }) D [(bc, .object RX0)] [(h0, .inr (8, [.ref tp, .ref rd, .ref dr, .ref fa, .ref ly, .ref wy])), (fa, .inr (3, [.ref cu, .ref rv, .ref bt, .int 0, .int 0, .int 0])), (bt, .inl (bc, 10, .inr (.inr (.inr (.inr (va_up (va_up (va_up (va_up (va_up (va_up (va_up (va_up (va_up (va_up (fun _ => none) 0 (some bo0)) 1 (some bo1)) 2 (some bo2)) 3 (some bo3)) 4 (some bo4)) 5 (some bo5)) 6 (some bo6)) 7 (some bo7)) 8 (some bo8)) 9 (some bo9))))))), (bo0, .inr (0, [.int 0, .int 0, .int 0, .int 0, .int 0, .int 0, .int 0]))] xT [.ref h0, .int w1, .int fi, .int cr] (S := Unit) (fun r _ => r = (if w1 < 1 ∨ 50 < w1 ∨ cr < 0 ∨ 99 < cr then (-1) else 0)) (fun _ => []) (fun _ => []) := by
  intro sz
  refine Met.ofW (cc := cX9_booth) (maxL := 4) (ret := (some .int)) (by decide) rfl ?_
  intro p e s m args below meth c s₁ B hml hv
  obtain ⟨rfl, hsz, hP, hK, hD0, hX⟩ := hv
  have hx := B.exec
  have hb := B.bytes
  have hr := B.returns
  have hts0 := atoms_spec (ws := .code yX9_booth cX9_booth 4 (some .int) :: gw) B.pre
  have hts := fun (w : Cond) (h : w ∈ gw) => hts0 w (List.mem_cons_of_mem _ h)
  have hown : s.vm.findClass RX9 = some m.cls := findClass_of_methodNamed B.named
  have hlocks := B.notSynchronized
  have F : mFix p s m _ c cX9_booth 4 RX9 := ⟨hx, hb, hml, hown, hts⟩
  subst hsz
  have hD := hD0.self (sz := s.heap.size)
  generalize hAe : va_A [(h0, .inr (8, [.ref tp, .ref rd, .ref dr, .ref fa, .ref ly, .ref wy])), (fa, .inr (3, [.ref cu, .ref rv, .ref bt, .int 0, .int 0, .int 0])), (bt, .inl (bc, 10, .inr (.inr (.inr (.inr (va_up (va_up (va_up (va_up (va_up (va_up (va_up (va_up (va_up (va_up (fun _ => none) 0 (some bo0)) 1 (some bo1)) 2 (some bo2)) 3 (some bo3)) 4 (some bo4)) 5 (some bo5)) 6 (some bo6)) 7 (some bo7)) 8 (some bo8)) 9 (some bo9))))))), (bo0, .inr (0, [.int 0, .int 0, .int 0, .int 0, .int 0, .int 0, .int 0]))] s.heap.size = A at hD hX ⊢
  have hA : ∀ q : Nat, s.heap.size ≤ q → A q := fun q h => by rw [← hAe]; exact Or.inr h
  have hS : va_S A s.heap s.heap [] := va_S.rf
  have hl := lv_entry ([.ref h0, .int w1, .int fi, .int cr]) (n := 4) (Nat.le_of_ble_eq_true rfl)
  rw [lg_entry_eq]
  generalize (lg_sl ([.ref h0, .int w1, .int fi, .int cr]) ++ List.replicate (4 - (lg_sl ([.ref h0, .int w1, .int fi, .int cr])).length) Slot.unset).toArray = ls at hl ⊢
  have hl : lv_has ls 4 [(0, .ref h0), (1, .int w1), (2, .int fi), (3, .int cr)] := hl
  have hP : va_P D vwCl [(h0, .inr (8, [.ref tp, .ref rd, .ref dr, .ref fa, .ref ly, .ref wy])), (fa, .inr (3, [.ref cu, .ref rv, .ref bt, .int 0, .int 0, .int 0])), (bt, .inl (bc, 10, .inr (.inr (.inr (.inr (va_up (va_up (va_up (va_up (va_up (va_up (va_up (va_up (va_up (va_up (fun _ => none) 0 (some bo0)) 1 (some bo1)) 2 (some bo2)) 3 (some bo3)) 4 (some bo4)) 5 (some bo5)) 6 (some bo6)) 7 (some bo7)) 8 (some bo8)) 9 (some bo9))))))), (bo0, .inr (0, [.int 0, .int 0, .int 0, .int 0, .int 0, .int 0, .int 0]))] s.heap := hP
  refine lv_iload_n hx hb dX9_booth_0 rfl (lv_at hl 1 rfl) ?_
  refine lv_iconst (v := 1) hx hb dX9_booth_1 (by decide) ?_
  refine lv_icmp_lt (tgt := 21) hx hb dX9_booth_2 (by decide) (fun c_1 => ?_) (fun c_1 => ?_)
  · skip
    refine lv_iconst (v := -1) hx hb dX9_booth_21 (by decide) ?_
    have hP9 := hP.sub (ws' := []) [] rfl
    have hD9 := hD.sub (ws' := []) [] (by decide) rfl
    have hK9 := hK.sub (tys' := []) [] rfl
    refine W.widen (k := 0) (n := 0) (by decide) (by decide) ?_
    exact W.iret (v := (-1)) hx hb hr (fun t ht hW => ⟨⟨((-1)), (), rfl, by simp only [c_1, or_false, false_or, or_true, true_or, not_true_eq_false, not_false_eq_true, ↓reduceIte], by rw [ht]; exact hP9, va_K.moved hW.alike hK9, hD9⟩, hS.F ht⟩) hS.2.2 dX9_booth_22
  · skip
    refine lv_iload_n hx hb dX9_booth_5 rfl (lv_at hl 1 rfl) ?_
    refine lv_bipush (v := 50) hx hb dX9_booth_6 (by decide) ?_
    refine lv_icmp_gt (tgt := 21) hx hb dX9_booth_8 (by decide) (fun c_2 => ?_) (fun c_2 => ?_)
    · skip
      refine lv_iconst (v := -1) hx hb dX9_booth_21 (by decide) ?_
      have hP9 := hP.sub (ws' := []) [] rfl
      have hD9 := hD.sub (ws' := []) [] (by decide) rfl
      have hK9 := hK.sub (tys' := []) [] rfl
      refine W.widen (k := 0) (n := 0) (by decide) (by decide) ?_
      exact W.iret (v := (-1)) hx hb hr (fun t ht hW => ⟨⟨((-1)), (), rfl, by simp only [c_1, c_2, or_false, false_or, or_true, true_or, not_true_eq_false, not_false_eq_true, ↓reduceIte], by rw [ht]; exact hP9, va_K.moved hW.alike hK9, hD9⟩, hS.F ht⟩) hS.2.2 dX9_booth_22
    · skip
      refine lv_iload_n hx hb dX9_booth_11 rfl (lv_at hl 3 rfl) ?_
      refine lv_if_lt (tgt := 21) hx hb dX9_booth_12 (by decide) (fun c_3 => ?_) (fun c_3 => ?_)
      · skip
        refine lv_iconst (v := -1) hx hb dX9_booth_21 (by decide) ?_
        have hP9 := hP.sub (ws' := []) [] rfl
        have hD9 := hD.sub (ws' := []) [] (by decide) rfl
        have hK9 := hK.sub (tys' := []) [] rfl
        refine W.widen (k := 0) (n := 0) (by decide) (by decide) ?_
        exact W.iret (v := (-1)) hx hb hr (fun t ht hW => ⟨⟨((-1)), (), rfl, by simp only [c_1, c_2, c_3, or_false, false_or, or_true, true_or, not_true_eq_false, not_false_eq_true, ↓reduceIte], by rw [ht]; exact hP9, va_K.moved hW.alike hK9, hD9⟩, hS.F ht⟩) hS.2.2 dX9_booth_22
      · skip
        refine lv_iload_n hx hb dX9_booth_15 rfl (lv_at hl 3 rfl) ?_
        refine lv_bipush (v := 99) hx hb dX9_booth_16 (by decide) ?_
        refine lv_icmp_le (tgt := 23) hx hb dX9_booth_18 (by decide) (fun c_4 => ?_) (fun c_4 => ?_)
        · skip
          have c_4 := Int32.not_lt.mpr c_4
          refine lv_aload_n hx hb dX9_booth_23 rfl (lv_at hl 0 rfl) ?_
          refine va_get (D := D) (ci := 8) (v := .ref fa) (C := RX9) (T := TX9) (N := 6) hx hb hts inG_X9 hown hK hP 0 rfl rfl 3 (by decide) (hts _ kw_2_70) (fun _ h9 => h9) rfl dX9_booth_24 ?_
          refine lv_iload_n hx hb dX9_booth_27 rfl (lv_at hl 1 rfl) ?_
          refine lv_iload_n hx hb dX9_booth_28 rfl (lv_at hl 2 rfl) ?_
          refine lv_iload_n hx hb dX9_booth_29 rfl (lv_at hl 3 rfl) ?_
          refine mc_Vi (rest := []) (wr := [(h0, .inr (8, [.ref tp, .ref rd, .ref dr, .ref fa, .ref ly, .ref wy]))]) F hK hP hD hS hA (c_addBooth l D fa cu rv bt bo0 bo1 bo2 bo3 bo4 bo5 bo6 bo7 bo8 bo9 bc w1 fi cr (by assumption)) ⟨gk_X9_98.1, gk_X9_98.2, Nat.le_of_ble_eq_true rfl, Nat.le_of_ble_eq_true rfl⟩ [1, 2, 3] [0] [0] ⟨rfl, rfl, rfl, rfl, by decide⟩ rfl xT_move (fun _ _ _ => trivial) 1 rfl rfl rfl hl.1 rfl (Nat.le_of_ble_eq_true rfl) dX9_booth_30 ⟨Nat.le_of_ble_eq_true rfl, Nat.le_of_ble_eq_true rfl⟩ (fun r_5 _ H locs hw hK1 hP hD hS => ?_)
          have hP : va_P D vwCl [(h0, .inr (8, [.ref tp, .ref rd, .ref dr, .ref fa, .ref ly, .ref wy]))] H := hP
          have hD : va_D A [(h0, .inr (8, [.ref tp, .ref rd, .ref dr, .ref fa, .ref ly, .ref wy]))] := hD
          have hw_6 : r_5 = 0 := hw
          obtain rfl : r_5 = 0 := hw_6
          have hP9 := hP.sub (ws' := []) [] rfl
          have hD9 := hD.sub (ws' := []) [] (by decide) rfl
          have hK9 := hK.sub (tys' := []) [] rfl
          refine W.widen (k := 0) (n := 0) (by decide) (by decide) ?_
          exact W.iret (v := 0) hx hb hr (fun t ht hW => ⟨⟨0, (), rfl, by simp only [c_1, c_2, c_3, c_4, or_false, false_or, or_true, true_or, not_true_eq_false, not_false_eq_true, ↓reduceIte], by rw [ht]; exact hP9, va_K.moved hW.alike hK9, hD9⟩, hS.F ht⟩) hS.2.2 dX9_booth_33
        · skip
          have c_4 := Int32.not_le.mp c_4
          refine lv_iconst (v := -1) hx hb dX9_booth_21 (by decide) ?_
          have hP9 := hP.sub (ws' := []) [] rfl
          have hD9 := hD.sub (ws' := []) [] (by decide) rfl
          have hK9 := hK.sub (tys' := []) [] rfl
          refine W.widen (k := 0) (n := 0) (by decide) (by decide) ?_
          exact W.iret (v := (-1)) hx hb hr (fun t ht hW => ⟨⟨((-1)), (), rfl, by simp only [c_1, c_2, c_3, c_4, or_false, false_or, or_true, true_or, not_true_eq_false, not_false_eq_true, ↓reduceIte], by rw [ht]; exact hP9, va_K.moved hW.alike hK9, hD9⟩, hS.F ht⟩) hS.2.2 dX9_booth_22
theorem dX9_set_0 : decode cX9_set 0 = .ok (.aload_n 0, 1) := by decide +kernel
theorem dX9_set_1 : decode cX9_set 1 = .ok (.getfield 33, 3) := by decide +kernel
theorem dX9_set_4 : decode cX9_set 4 = .ok (.iload_n 1, 1) := by decide +kernel
theorem kw_3_31 : Cond.methodLink RX9 102 yX3_boothNumbered ∈ gw := gw_t3 (List.mem_of_getElem? (i := 31) (by decide +kernel)) (by decide +kernel)
theorem kw_3_32 : Cond.instanceMethod yX3_boothNumbered ∈ gw := gw_t3 (List.mem_of_getElem? (i := 32) (by decide +kernel)) (by decide +kernel)
theorem kw_3_33 : Cond.selects RX3 yX3_boothNumbered yX3_boothNumbered ∈ gw := gw_t3 (List.mem_of_getElem? (i := 33) (by decide +kernel)) (by decide +kernel)
theorem kw_3_34 : Cond.code yX3_boothNumbered cX3_boothNumbered 2 (some (.object "IceFair$Booth")) ∈ gw := gw_t3 (List.mem_of_getElem? (i := 34) (by decide +kernel)) (by decide +kernel)
theorem gk_X9_102 : GoodIn gw (wsV RX9 102 RX3 yX3_boothNumbered (.code yX3_boothNumbered cX3_boothNumbered 2 (some (.object "IceFair$Booth")) :: gw)) ∧ (yX3_boothNumbered.cls = RX3 ∧ yX3_boothNumbered.cls ≠ "java/lang/invoke/MethodHandle" ∧ yX3_boothNumbered.cls ≠ "java/lang/invoke/VarHandle" ∧ (parseMethodDescriptor yX3_boothNumbered.desc).map (fun d => d.parameters.length) = some 1) := ⟨gi_V kw_3_31 kw_3_32 kw_3_33 kw_1_6 kw_3_34, by decide +kernel⟩
theorem dX9_set_5 : decode cX9_set 5 = .ok (.invokevirtual 102, 3) := by decide +kernel
theorem dX9_set_8 : decode cX9_set 8 = .ok (.astore 4, 2) := by decide +kernel
theorem dX9_set_10 : decode cX9_set 10 = .ok (.aload 4, 2) := by decide +kernel
theorem dX9_set_12 : decode cX9_set 12 = .ok (.ifnull 25, 3) := by decide +kernel
theorem dX9_set_37 : decode cX9_set 37 = .ok (.iconst (-1), 1) := by decide +kernel
theorem dX9_set_38 : decode cX9_set 38 = .ok (.ireturn, 1) := by decide +kernel
set_option maxHeartbeats 4000000 in
set_option maxRecDepth 100000 in
theorem c_set (l : Launch) (D : va_G) (h0 : Nat) (tp : Nat) (rd : Nat) (dr : Nat) (fa : Nat) (ly : Nat) (wy : Nat) (cu : Nat) (rv : Nat) (bt : Nat) (x1 : Int32) (x2 : Int32) (x3 : Int32) : cI l yX9_set (.code yX9_set cX9_set 5 (some .int)) ({ frames := 4, cells := 0, slots := 0, locals := 131 }) D [] [(h0, .inr (8, [.ref tp, .ref rd, .ref dr, .ref fa, .ref ly, .ref wy])), (fa, .inr (3, [.ref cu, .ref rv, .ref bt, .int 0, .int 0, .int 0]))] xT [.ref h0, .int x1, .int x2, .int x3] (S := Unit) (fun r _ => r = (-1)) (fun _ => []) (fun _ => []) := by
  intro sz
  refine Met.ofW (cc := cX9_set) (maxL := 5) (ret := (some .int)) (by decide) rfl ?_
  intro p e s m args below meth c s₁ B hml hv
  obtain ⟨rfl, hsz, hP, hK, hD0, hX⟩ := hv
  have hx := B.exec
  have hb := B.bytes
  have hr := B.returns
  have hts0 := atoms_spec (ws := .code yX9_set cX9_set 5 (some .int) :: gw) B.pre
  have hts := fun (w : Cond) (h : w ∈ gw) => hts0 w (List.mem_cons_of_mem _ h)
  have hown : s.vm.findClass RX9 = some m.cls := findClass_of_methodNamed B.named
  have hlocks := B.notSynchronized
  have F : mFix p s m _ c cX9_set 5 RX9 := ⟨hx, hb, hml, hown, hts⟩
  subst hsz
  have hD := hD0.self (sz := s.heap.size)
  generalize hAe : va_A [(h0, .inr (8, [.ref tp, .ref rd, .ref dr, .ref fa, .ref ly, .ref wy])), (fa, .inr (3, [.ref cu, .ref rv, .ref bt, .int 0, .int 0, .int 0]))] s.heap.size = A at hD hX ⊢
  have hA : ∀ q : Nat, s.heap.size ≤ q → A q := fun q h => by rw [← hAe]; exact Or.inr h
  have hS : va_S A s.heap s.heap [] := va_S.rf
  have hl := lv_entry ([.ref h0, .int x1, .int x2, .int x3]) (n := 5) (Nat.le_of_ble_eq_true rfl)
  rw [lg_entry_eq]
  generalize (lg_sl ([.ref h0, .int x1, .int x2, .int x3]) ++ List.replicate (5 - (lg_sl ([.ref h0, .int x1, .int x2, .int x3])).length) Slot.unset).toArray = ls at hl ⊢
  have hl : lv_has ls 5 [(0, .ref h0), (1, .int x1), (2, .int x2), (3, .int x3)] := hl
  have hP : va_P D vwCl [(h0, .inr (8, [.ref tp, .ref rd, .ref dr, .ref fa, .ref ly, .ref wy])), (fa, .inr (3, [.ref cu, .ref rv, .ref bt, .int 0, .int 0, .int 0]))] s.heap := hP
  refine lv_aload_n hx hb dX9_set_0 rfl (lv_at hl 0 rfl) ?_
  refine va_get (D := D) (ci := 8) (v := .ref fa) (C := RX9) (T := TX9) (N := 6) hx hb hts inG_X9 hown hK hP 0 rfl rfl 3 (by decide) (hts _ kw_2_70) (fun _ h9 => h9) rfl dX9_set_1 ?_
  refine lv_iload_n hx hb dX9_set_4 rfl (lv_at hl 1 rfl) ?_
  refine mc_Vq (rest := []) (wr := [(h0, .inr (8, [.ref tp, .ref rd, .ref dr, .ref fa, .ref ly, .ref wy]))]) F hK hP hD hS hA (c_boothNone l D fa cu rv bt 0 0 x1 ) ⟨gk_X9_102.1, gk_X9_102.2, Nat.le_of_ble_eq_true rfl, Nat.le_of_ble_eq_true rfl⟩ [1] [0] [] ⟨rfl, rfl, rfl, rfl, by decide⟩ rfl xT_move (fun _ _ _ => trivial) 1 rfl rfl rfl hl.1 rfl (Nat.le_of_ble_eq_true rfl) dX9_set_5 ⟨Nat.le_of_ble_eq_true rfl, Nat.le_of_ble_eq_true rfl⟩ (fun r_1 _ H locs hw hK1 hP hD hS => ?_)
  have hP : va_P D vwCl [(h0, .inr (8, [.ref tp, .ref rd, .ref dr, .ref fa, .ref ly, .ref wy])), (fa, .inr (3, [.ref cu, .ref rv, .ref bt, .int 0, .int 0, .int 0]))] H := hP
  have hD : va_D A [(h0, .inr (8, [.ref tp, .ref rd, .ref dr, .ref fa, .ref ly, .ref wy])), (fa, .inr (3, [.ref cu, .ref rv, .ref bt, .int 0, .int 0, .int 0]))] := hD
  have hw_2 : r_1 = none := hw
  obtain rfl : r_1 = none := hw_2
  refine W.eq (g2 := F0 m 8 ls [.null]) rfl ?_
  refine lv_astoreN (lv' := [(4, .null), (0, .ref h0), (1, .int x1), (2, .int x2), (3, .int x3)]) hx hb dX9_set_8 hl (by decide) rfl (fun ls hl => ?_)
  refine lv_aloadN hx hb dX9_set_10 (lv_at hl 0 rfl) ?_
  refine lv_ifnullN (tgt := 37) hx hb dX9_set_12 (by decide) ?_
  refine lv_iconst (v := -1) hx hb dX9_set_37 (by decide) ?_
  have hP9 := hP.sub (ws' := []) [] rfl
  have hD9 := hD.sub (ws' := []) [] (by decide) rfl
  have hK9 := hK.sub (tys' := []) [] rfl
  refine W.widen (k := 0) (n := 0) (by decide) (by decide) ?_
  exact W.iret (v := (-1)) hx hb hr (fun t ht hW => ⟨⟨((-1)), (), rfl, rfl, by rw [ht]; exact hP9, va_K.moved hW.alike hK9, hD9⟩, hS.F ht⟩) hS.2.2 dX9_set_38
theorem dX9_clear_0 : decode cX9_clear 0 = .ok (.aload_n 0, 1) := by decide +kernel
theorem dX9_clear_1 : decode cX9_clear 1 = .ok (.getfield 33, 3) := by decide +kernel
theorem dX9_clear_4 : decode cX9_clear 4 = .ok (.iload_n 1, 1) := by decide +kernel
theorem dX9_clear_5 : decode cX9_clear 5 = .ok (.invokevirtual 102, 3) := by decide +kernel
theorem dX9_clear_8 : decode cX9_clear 8 = .ok (.astore_n 2, 1) := by decide +kernel
theorem dX9_clear_9 : decode cX9_clear 9 = .ok (.aload_n 2, 1) := by decide +kernel
theorem dX9_clear_10 : decode cX9_clear 10 = .ok (.ifnull 11, 3) := by decide +kernel
theorem dX9_clear_21 : decode cX9_clear 21 = .ok (.iconst 0, 1) := by decide +kernel
theorem dX9_clear_22 : decode cX9_clear 22 = .ok (.ireturn, 1) := by decide +kernel
set_option maxHeartbeats 4000000 in
set_option maxRecDepth 100000 in
theorem c_clear (l : Launch) (D : va_G) (h0 : Nat) (tp : Nat) (rd : Nat) (dr : Nat) (fa : Nat) (ly : Nat) (wy : Nat) (cu : Nat) (rv : Nat) (bt : Nat) (x1 : Int32) : cI l yX9_clear (.code yX9_clear cX9_clear 3 (some .boolean)) ({ frames := 3, cells := 0, slots := 0, locals := 69 }) D [] [(h0, .inr (8, [.ref tp, .ref rd, .ref dr, .ref fa, .ref ly, .ref wy])), (fa, .inr (3, [.ref cu, .ref rv, .ref bt, .int 0, .int 0, .int 0]))] xT [.ref h0, .int x1] (S := Unit) (fun r _ => r = 0) (fun _ => []) (fun _ => []) := by
  intro sz
  refine Met.ofW (cc := cX9_clear) (maxL := 3) (ret := (some .boolean)) (by decide) rfl ?_
  intro p e s m args below meth c s₁ B hml hv
  obtain ⟨rfl, hsz, hP, hK, hD0, hX⟩ := hv
  have hx := B.exec
  have hb := B.bytes
  have hr := B.returns
  have hts0 := atoms_spec (ws := .code yX9_clear cX9_clear 3 (some .boolean) :: gw) B.pre
  have hts := fun (w : Cond) (h : w ∈ gw) => hts0 w (List.mem_cons_of_mem _ h)
  have hown : s.vm.findClass RX9 = some m.cls := findClass_of_methodNamed B.named
  have hlocks := B.notSynchronized
  have F : mFix p s m _ c cX9_clear 3 RX9 := ⟨hx, hb, hml, hown, hts⟩
  subst hsz
  have hD := hD0.self (sz := s.heap.size)
  generalize hAe : va_A [(h0, .inr (8, [.ref tp, .ref rd, .ref dr, .ref fa, .ref ly, .ref wy])), (fa, .inr (3, [.ref cu, .ref rv, .ref bt, .int 0, .int 0, .int 0]))] s.heap.size = A at hD hX ⊢
  have hA : ∀ q : Nat, s.heap.size ≤ q → A q := fun q h => by rw [← hAe]; exact Or.inr h
  have hS : va_S A s.heap s.heap [] := va_S.rf
  have hl := lv_entry ([.ref h0, .int x1]) (n := 3) (Nat.le_of_ble_eq_true rfl)
  rw [lg_entry_eq]
  generalize (lg_sl ([.ref h0, .int x1]) ++ List.replicate (3 - (lg_sl ([.ref h0, .int x1])).length) Slot.unset).toArray = ls at hl ⊢
  have hl : lv_has ls 3 [(0, .ref h0), (1, .int x1)] := hl
  have hP : va_P D vwCl [(h0, .inr (8, [.ref tp, .ref rd, .ref dr, .ref fa, .ref ly, .ref wy])), (fa, .inr (3, [.ref cu, .ref rv, .ref bt, .int 0, .int 0, .int 0]))] s.heap := hP
  refine lv_aload_n hx hb dX9_clear_0 rfl (lv_at hl 0 rfl) ?_
  refine va_get (D := D) (ci := 8) (v := .ref fa) (C := RX9) (T := TX9) (N := 6) hx hb hts inG_X9 hown hK hP 0 rfl rfl 3 (by decide) (hts _ kw_2_70) (fun _ h9 => h9) rfl dX9_clear_1 ?_
  refine lv_iload_n hx hb dX9_clear_4 rfl (lv_at hl 1 rfl) ?_
  refine mc_Vq (rest := []) (wr := [(h0, .inr (8, [.ref tp, .ref rd, .ref dr, .ref fa, .ref ly, .ref wy]))]) F hK hP hD hS hA (c_boothNone l D fa cu rv bt 0 0 x1 ) ⟨gk_X9_102.1, gk_X9_102.2, Nat.le_of_ble_eq_true rfl, Nat.le_of_ble_eq_true rfl⟩ [1] [0] [] ⟨rfl, rfl, rfl, rfl, by decide⟩ rfl xT_move (fun _ _ _ => trivial) 1 rfl rfl rfl hl.1 rfl (Nat.le_of_ble_eq_true rfl) dX9_clear_5 ⟨Nat.le_of_ble_eq_true rfl, Nat.le_of_ble_eq_true rfl⟩ (fun r_1 _ H locs hw hK1 hP hD hS => ?_)
  have hP : va_P D vwCl [(h0, .inr (8, [.ref tp, .ref rd, .ref dr, .ref fa, .ref ly, .ref wy])), (fa, .inr (3, [.ref cu, .ref rv, .ref bt, .int 0, .int 0, .int 0]))] H := hP
  have hD : va_D A [(h0, .inr (8, [.ref tp, .ref rd, .ref dr, .ref fa, .ref ly, .ref wy])), (fa, .inr (3, [.ref cu, .ref rv, .ref bt, .int 0, .int 0, .int 0]))] := hD
  have hw_2 : r_1 = none := hw
  obtain rfl : r_1 = none := hw_2
  refine W.eq (g2 := F0 m 8 ls [.null]) rfl ?_
  refine lv_astore_nN (lv' := [(2, .null), (0, .ref h0), (1, .int x1)]) hx hb dX9_clear_8 rfl hl (by decide) rfl (fun ls hl => ?_)
  refine lv_aload_nN hx hb dX9_clear_9 rfl (lv_at hl 0 rfl) ?_
  refine lv_ifnullN (tgt := 21) hx hb dX9_clear_10 (by decide) ?_
  refine lv_iconst (v := 0) hx hb dX9_clear_21 (by decide) ?_
  have hP9 := hP.sub (ws' := []) [] rfl
  have hD9 := hD.sub (ws' := []) [] (by decide) rfl
  have hK9 := hK.sub (tys' := []) [] rfl
  refine W.widen (k := 0) (n := 0) (by decide) (by decide) ?_
  exact W.zret (v := 0) hx hb hr rfl (fun t ht hW => ⟨⟨0, (), rfl, rfl, by rw [ht]; exact hP9, va_K.moved hW.alike hK9, hD9⟩, hS.F ht⟩) hS.2.2 dX9_clear_22
theorem dX1_copyFrom_0 : decode cX1_copyFrom 0 = .ok (.aload_n 1, 1) := by decide +kernel
theorem dX1_copyFrom_1 : decode cX1_copyFrom 1 = .ok (.getfield 15, 3) := by decide +kernel
theorem dX1_copyFrom_4 : decode cX1_copyFrom 4 = .ok (.iconst 0, 1) := by decide +kernel
theorem dX1_copyFrom_5 : decode cX1_copyFrom 5 = .ok (.aload_n 0, 1) := by decide +kernel
theorem dX1_copyFrom_6 : decode cX1_copyFrom 6 = .ok (.getfield 15, 3) := by decide +kernel
theorem dX1_copyFrom_9 : decode cX1_copyFrom 9 = .ok (.iconst 0, 1) := by decide +kernel
theorem dX1_copyFrom_10 : decode cX1_copyFrom 10 = .ok (.getstatic 9, 3) := by decide +kernel
theorem dX1_copyFrom_13 : decode cX1_copyFrom 13 = .ok (.arraylength, 1) := by decide +kernel
theorem dX1_copyFrom_14 : decode cX1_copyFrom 14 = .ok (.invokestatic 30, 3) := by decide +kernel
theorem dX1_copyFrom_17 : decode cX1_copyFrom 17 = .ok (.aload_n 1, 1) := by decide +kernel
theorem dX1_copyFrom_18 : decode cX1_copyFrom 18 = .ok (.getfield 18, 3) := by decide +kernel
theorem dX1_copyFrom_21 : decode cX1_copyFrom 21 = .ok (.iconst 0, 1) := by decide +kernel
theorem dX1_copyFrom_22 : decode cX1_copyFrom 22 = .ok (.aload_n 0, 1) := by decide +kernel
theorem dX1_copyFrom_23 : decode cX1_copyFrom 23 = .ok (.getfield 18, 3) := by decide +kernel
theorem dX1_copyFrom_26 : decode cX1_copyFrom 26 = .ok (.iconst 0, 1) := by decide +kernel
theorem dX1_copyFrom_27 : decode cX1_copyFrom 27 = .ok (.iconst 4, 1) := by decide +kernel
theorem dX1_copyFrom_28 : decode cX1_copyFrom 28 = .ok (.invokestatic 30, 3) := by decide +kernel
theorem dX1_copyFrom_31 : decode cX1_copyFrom 31 = .ok (.aload_n 1, 1) := by decide +kernel
theorem dX1_copyFrom_32 : decode cX1_copyFrom 32 = .ok (.getfield 21, 3) := by decide +kernel
theorem dX1_copyFrom_35 : decode cX1_copyFrom 35 = .ok (.iconst 0, 1) := by decide +kernel
theorem dX1_copyFrom_36 : decode cX1_copyFrom 36 = .ok (.aload_n 0, 1) := by decide +kernel
theorem dX1_copyFrom_37 : decode cX1_copyFrom 37 = .ok (.getfield 21, 3) := by decide +kernel
theorem dX1_copyFrom_40 : decode cX1_copyFrom 40 = .ok (.iconst 0, 1) := by decide +kernel
theorem dX1_copyFrom_41 : decode cX1_copyFrom 41 = .ok (.iconst 4, 1) := by decide +kernel
theorem dX1_copyFrom_42 : decode cX1_copyFrom 42 = .ok (.invokestatic 30, 3) := by decide +kernel
theorem dX1_copyFrom_45 : decode cX1_copyFrom 45 = .ok (.aload_n 1, 1) := by decide +kernel
theorem dX1_copyFrom_46 : decode cX1_copyFrom 46 = .ok (.getfield 24, 3) := by decide +kernel
theorem dX1_copyFrom_49 : decode cX1_copyFrom 49 = .ok (.iconst 0, 1) := by decide +kernel
theorem dX1_copyFrom_50 : decode cX1_copyFrom 50 = .ok (.aload_n 0, 1) := by decide +kernel
theorem dX1_copyFrom_51 : decode cX1_copyFrom 51 = .ok (.getfield 24, 3) := by decide +kernel
theorem dX1_copyFrom_54 : decode cX1_copyFrom 54 = .ok (.iconst 0, 1) := by decide +kernel
theorem dX1_copyFrom_55 : decode cX1_copyFrom 55 = .ok (.iconst 4, 1) := by decide +kernel
theorem dX1_copyFrom_56 : decode cX1_copyFrom 56 = .ok (.invokestatic 30, 3) := by decide +kernel
theorem dX1_copyFrom_59 : decode cX1_copyFrom 59 = .ok (.aload_n 0, 1) := by decide +kernel
theorem dX1_copyFrom_60 : decode cX1_copyFrom 60 = .ok (.aload_n 1, 1) := by decide +kernel
theorem dX1_copyFrom_61 : decode cX1_copyFrom 61 = .ok (.getfield 36, 3) := by decide +kernel
theorem dX1_copyFrom_64 : decode cX1_copyFrom 64 = .ok (.putfield 36, 3) := by decide +kernel
theorem dX1_copyFrom_67 : decode cX1_copyFrom 67 = .ok (.aload_n 0, 1) := by decide +kernel
theorem dX1_copyFrom_68 : decode cX1_copyFrom 68 = .ok (.aload_n 1, 1) := by decide +kernel
theorem dX1_copyFrom_69 : decode cX1_copyFrom 69 = .ok (.getfield 40, 3) := by decide +kernel
theorem dX1_copyFrom_72 : decode cX1_copyFrom 72 = .ok (.putfield 40, 3) := by decide +kernel
theorem dX1_copyFrom_75 : decode cX1_copyFrom 75 = .ok (.return_, 1) := by decide +kernel
set_option maxHeartbeats 4000000 in
set_option maxRecDepth 100000 in
theorem c_copyFrom (l : Launch) (D : va_G) (us : Nat) (h0 : Nat) (q1 : Nat) (q2 : Nat) (q3 : Nat) (q4 : Nat) (cy1 : ClassId) (cy2 : ClassId) (cy3 : ClassId) (cy4 : ClassId) (f1 : Nat → Int32) (f2 : Nat → Int32) (f3 : Nat → Int32) (f4 : Nat → Int32) (n1 : Int32) (n2 : Int32) (g0 : Nat) (p1 : Nat) (p2 : Nat) (p3 : Nat) (p4 : Nat) (dy1 : ClassId) (dy2 : ClassId) (dy3 : ClassId) (dy4 : ClassId) (g1 : Nat → Int32) (g2 : Nat → Int32) (g3 : Nat → Int32) (g4 : Nat → Int32) (m1 : Int32) (m2 : Int32) : cV l yX1_copyFrom (.code yX1_copyFrom cX1_copyFrom 2 none) ({ frames := 1, cells := 0, slots := 0, locals := 60 }) D [(cy1, .int), (cy2, .int), (cy3, .int), (cy4, .int), (dy1, .int), (dy2, .int), (dy3, .int), (dy4, .int)] [(h0, .inr (1, [.ref q1, .ref q2, .ref q3, .ref q4, .int n1, .int n2])), (q1, .inl (cy1, 8, .inl f1)), (q2, .inl (cy2, 4, .inl f2)), (q3, .inl (cy3, 4, .inl f3)), (q4, .inl (cy4, 4, .inl f4)), (g0, .inr (1, [.ref p1, .ref p2, .ref p3, .ref p4, .int m1, .int m2])), (p1, .inl (dy1, 8, .inl g1)), (p2, .inl (dy2, 4, .inl g2)), (p3, .inl (dy3, 4, .inl g3)), (p4, .inl (dy4, 4, .inl g4))] (xU us) [.ref h0, .ref g0] (S := Unit) (fun _ => True) (fun _ => []) (fun _ => [(h0, .inr (1, [.ref q1, .ref q2, .ref q3, .ref q4, .int m1, .int m2])), (q1, .inl (cy1, 8, .inl g1)), (q2, .inl (cy2, 4, .inl g2)), (q3, .inl (cy3, 4, .inl g3)), (q4, .inl (cy4, 4, .inl g4)), (g0, .inr (1, [.ref p1, .ref p2, .ref p3, .ref p4, .int m1, .int m2])), (p1, .inl (dy1, 8, .inl g1)), (p2, .inl (dy2, 4, .inl g2)), (p3, .inl (dy3, 4, .inl g3)), (p4, .inl (dy4, 4, .inl g4))]) := by
  intro sz
  refine Met.ofW (cc := cX1_copyFrom) (maxL := 2) (ret := none) (by decide) rfl ?_
  intro p e s m args below meth c s₁ B hml hv
  obtain ⟨rfl, hsz, hP, hK, hD0, hX⟩ := hv
  have hx := B.exec
  have hb := B.bytes
  have hr := B.returns
  have hts0 := atoms_spec (ws := .code yX1_copyFrom cX1_copyFrom 2 none :: gw) B.pre
  have hts := fun (w : Cond) (h : w ∈ gw) => hts0 w (List.mem_cons_of_mem _ h)
  have hown : s.vm.findClass RX1 = some m.cls := findClass_of_methodNamed B.named
  have hlocks := B.notSynchronized
  have F : mFix p s m _ c cX1_copyFrom 2 RX1 := ⟨hx, hb, hml, hown, hts⟩
  subst hsz
  have hD := hD0.self (sz := s.heap.size)
  generalize hAe : va_A [(h0, .inr (1, [.ref q1, .ref q2, .ref q3, .ref q4, .int n1, .int n2])), (q1, .inl (cy1, 8, .inl f1)), (q2, .inl (cy2, 4, .inl f2)), (q3, .inl (cy3, 4, .inl f3)), (q4, .inl (cy4, 4, .inl f4)), (g0, .inr (1, [.ref p1, .ref p2, .ref p3, .ref p4, .int m1, .int m2])), (p1, .inl (dy1, 8, .inl g1)), (p2, .inl (dy2, 4, .inl g2)), (p3, .inl (dy3, 4, .inl g3)), (p4, .inl (dy4, 4, .inl g4))] s.heap.size = A at hD hX ⊢
  have hA : ∀ q : Nat, s.heap.size ≤ q → A q := fun q h => by rw [← hAe]; exact Or.inr h
  have hS : va_S A s.heap s.heap [] := va_S.rf
  have hl := lv_entry ([.ref h0, .ref g0]) (n := 2) (Nat.le_of_ble_eq_true rfl)
  rw [lg_entry_eq]
  generalize (lg_sl ([.ref h0, .ref g0]) ++ List.replicate (2 - (lg_sl ([.ref h0, .ref g0])).length) Slot.unset).toArray = ls at hl ⊢
  have hl : lv_has ls 2 [(0, .ref h0), (1, .ref g0)] := hl
  have hP : va_P D vwCl [(h0, .inr (1, [.ref q1, .ref q2, .ref q3, .ref q4, .int n1, .int n2])), (q1, .inl (cy1, 8, .inl f1)), (q2, .inl (cy2, 4, .inl f2)), (q3, .inl (cy3, 4, .inl f3)), (q4, .inl (cy4, 4, .inl f4)), (g0, .inr (1, [.ref p1, .ref p2, .ref p3, .ref p4, .int m1, .int m2])), (p1, .inl (dy1, 8, .inl g1)), (p2, .inl (dy2, 4, .inl g2)), (p3, .inl (dy3, 4, .inl g3)), (p4, .inl (dy4, 4, .inl g4))] s.heap := hP
  refine lv_aload_n hx hb dX1_copyFrom_0 rfl (lv_at hl 1 rfl) ?_
  refine va_get (D := D) (ci := 1) (v := .ref p1) (C := RX1) (T := TX1) (N := 6) hx hb hts inG_X1 hown hK hP 5 rfl rfl 0 (by decide) (hts _ kw_1_99) (fun _ h9 => h9) rfl dX1_copyFrom_1 ?_
  refine lv_iconst (v := 0) hx hb dX1_copyFrom_4 (by decide) ?_
  refine lv_aload_n hx hb dX1_copyFrom_5 rfl (lv_at hl 0 rfl) ?_
  refine va_get (D := D) (ci := 1) (v := .ref q1) (C := RX1) (T := TX1) (N := 6) hx hb hts inG_X1 hown hK hP 0 rfl rfl 0 (by decide) (hts _ kw_1_99) (fun _ h9 => h9) rfl dX1_copyFrom_6 ?_
  refine lv_iconst (v := 0) hx hb dX1_copyFrom_9 (by decide) ?_
  refine va_gets hx hb hX.1 hS hown (hts _ kw_1_90) (fun _ h9 => h9) dX1_copyFrom_10 ?_
  refine va_slen hx hb hX.2.1 hX.2.2.1 hX.2.2.2 hS dX1_copyFrom_13 ?_
  refine lv_topi (fun z_1 ez_1 => ?_)
  obtain rfl : z_1 = (8 : Int32) := ez_1.trans (by decide)
  refine va_copyi hx hb (by rw [hml]; exact hl.1.symm) hown (hts _ kw_1_96) (hts _ kw_1_98) (hts _ kw_1_97) (hts _ kw_1_5) hK hP hD hS 6 1 4 0 rfl rfl rfl rfl rfl (by decide) (by decide) (by decide) (by decide) (by decide) (fun _ _ => rfl) (Nat.le_of_ble_eq_true rfl) (Nat.le_of_ble_eq_true rfl) dX1_copyFrom_14 (fun H locs hP hD hS => ?_)
  have hP : va_P D vwCl [(h0, .inr (1, [.ref q1, .ref q2, .ref q3, .ref q4, .int n1, .int n2])), (q1, .inl (cy1, 8, .inl (va_cpy g1 f1 0 0 8))), (q2, .inl (cy2, 4, .inl f2)), (q3, .inl (cy3, 4, .inl f3)), (q4, .inl (cy4, 4, .inl f4)), (g0, .inr (1, [.ref p1, .ref p2, .ref p3, .ref p4, .int m1, .int m2])), (p1, .inl (dy1, 8, .inl g1)), (p2, .inl (dy2, 4, .inl g2)), (p3, .inl (dy3, 4, .inl g3)), (p4, .inl (dy4, 4, .inl g4))] H := hP
  have hD : va_D A [(h0, .inr (1, [.ref q1, .ref q2, .ref q3, .ref q4, .int n1, .int n2])), (q1, .inl (cy1, 8, .inl (va_cpy g1 f1 0 0 8))), (q2, .inl (cy2, 4, .inl f2)), (q3, .inl (cy3, 4, .inl f3)), (q4, .inl (cy4, 4, .inl f4)), (g0, .inr (1, [.ref p1, .ref p2, .ref p3, .ref p4, .int m1, .int m2])), (p1, .inl (dy1, 8, .inl g1)), (p2, .inl (dy2, 4, .inl g2)), (p3, .inl (dy3, 4, .inl g3)), (p4, .inl (dy4, 4, .inl g4))] := hD
  have hP := va_P_arr hP 1 g1 rfl (fun j hj => sb_cpy0 hj)
  have hP : va_P D vwCl [(h0, .inr (1, [.ref q1, .ref q2, .ref q3, .ref q4, .int n1, .int n2])), (q1, .inl (cy1, 8, .inl g1)), (q2, .inl (cy2, 4, .inl f2)), (q3, .inl (cy3, 4, .inl f3)), (q4, .inl (cy4, 4, .inl f4)), (g0, .inr (1, [.ref p1, .ref p2, .ref p3, .ref p4, .int m1, .int m2])), (p1, .inl (dy1, 8, .inl g1)), (p2, .inl (dy2, 4, .inl g2)), (p3, .inl (dy3, 4, .inl g3)), (p4, .inl (dy4, 4, .inl g4))] H := hP
  have hD : va_D A [(h0, .inr (1, [.ref q1, .ref q2, .ref q3, .ref q4, .int n1, .int n2])), (q1, .inl (cy1, 8, .inl g1)), (q2, .inl (cy2, 4, .inl f2)), (q3, .inl (cy3, 4, .inl f3)), (q4, .inl (cy4, 4, .inl f4)), (g0, .inr (1, [.ref p1, .ref p2, .ref p3, .ref p4, .int m1, .int m2])), (p1, .inl (dy1, 8, .inl g1)), (p2, .inl (dy2, 4, .inl g2)), (p3, .inl (dy3, 4, .inl g3)), (p4, .inl (dy4, 4, .inl g4))] := va_D_same hD rfl
  refine lv_aload_n hx hb dX1_copyFrom_17 rfl (lv_at hl 1 rfl) ?_
  refine va_get (D := D) (ci := 1) (v := .ref p2) (C := RX1) (T := TX1) (N := 6) hx hb hts inG_X1 hown hK hP 5 rfl rfl 1 (by decide) (hts _ kw_1_100) (fun _ h9 => h9) rfl dX1_copyFrom_18 ?_
  refine lv_iconst (v := 0) hx hb dX1_copyFrom_21 (by decide) ?_
  refine lv_aload_n hx hb dX1_copyFrom_22 rfl (lv_at hl 0 rfl) ?_
  refine va_get (D := D) (ci := 1) (v := .ref q2) (C := RX1) (T := TX1) (N := 6) hx hb hts inG_X1 hown hK hP 0 rfl rfl 1 (by decide) (hts _ kw_1_100) (fun _ h9 => h9) rfl dX1_copyFrom_23 ?_
  refine lv_iconst (v := 0) hx hb dX1_copyFrom_26 (by decide) ?_
  refine lv_iconst (v := 4) hx hb dX1_copyFrom_27 (by decide) ?_
  refine va_copyi hx hb (by rw [hml]; exact hl.1.symm) hown (hts _ kw_1_96) (hts _ kw_1_98) (hts _ kw_1_97) (hts _ kw_1_5) hK hP hD hS 7 2 5 1 rfl rfl rfl rfl rfl (by decide) (by decide) (by decide) (by decide) (by decide) (fun _ _ => rfl) (Nat.le_of_ble_eq_true rfl) (Nat.le_of_ble_eq_true rfl) dX1_copyFrom_28 (fun H locs hP hD hS => ?_)
  have hP : va_P D vwCl [(h0, .inr (1, [.ref q1, .ref q2, .ref q3, .ref q4, .int n1, .int n2])), (q1, .inl (cy1, 8, .inl g1)), (q2, .inl (cy2, 4, .inl (va_cpy g2 f2 0 0 4))), (q3, .inl (cy3, 4, .inl f3)), (q4, .inl (cy4, 4, .inl f4)), (g0, .inr (1, [.ref p1, .ref p2, .ref p3, .ref p4, .int m1, .int m2])), (p1, .inl (dy1, 8, .inl g1)), (p2, .inl (dy2, 4, .inl g2)), (p3, .inl (dy3, 4, .inl g3)), (p4, .inl (dy4, 4, .inl g4))] H := hP
  have hD : va_D A [(h0, .inr (1, [.ref q1, .ref q2, .ref q3, .ref q4, .int n1, .int n2])), (q1, .inl (cy1, 8, .inl g1)), (q2, .inl (cy2, 4, .inl (va_cpy g2 f2 0 0 4))), (q3, .inl (cy3, 4, .inl f3)), (q4, .inl (cy4, 4, .inl f4)), (g0, .inr (1, [.ref p1, .ref p2, .ref p3, .ref p4, .int m1, .int m2])), (p1, .inl (dy1, 8, .inl g1)), (p2, .inl (dy2, 4, .inl g2)), (p3, .inl (dy3, 4, .inl g3)), (p4, .inl (dy4, 4, .inl g4))] := hD
  have hP := va_P_arr hP 2 g2 rfl (fun j hj => sb_cpy0 hj)
  have hP : va_P D vwCl [(h0, .inr (1, [.ref q1, .ref q2, .ref q3, .ref q4, .int n1, .int n2])), (q1, .inl (cy1, 8, .inl g1)), (q2, .inl (cy2, 4, .inl g2)), (q3, .inl (cy3, 4, .inl f3)), (q4, .inl (cy4, 4, .inl f4)), (g0, .inr (1, [.ref p1, .ref p2, .ref p3, .ref p4, .int m1, .int m2])), (p1, .inl (dy1, 8, .inl g1)), (p2, .inl (dy2, 4, .inl g2)), (p3, .inl (dy3, 4, .inl g3)), (p4, .inl (dy4, 4, .inl g4))] H := hP
  have hD : va_D A [(h0, .inr (1, [.ref q1, .ref q2, .ref q3, .ref q4, .int n1, .int n2])), (q1, .inl (cy1, 8, .inl g1)), (q2, .inl (cy2, 4, .inl g2)), (q3, .inl (cy3, 4, .inl f3)), (q4, .inl (cy4, 4, .inl f4)), (g0, .inr (1, [.ref p1, .ref p2, .ref p3, .ref p4, .int m1, .int m2])), (p1, .inl (dy1, 8, .inl g1)), (p2, .inl (dy2, 4, .inl g2)), (p3, .inl (dy3, 4, .inl g3)), (p4, .inl (dy4, 4, .inl g4))] := va_D_same hD rfl
  refine lv_aload_n hx hb dX1_copyFrom_31 rfl (lv_at hl 1 rfl) ?_
  refine va_get (D := D) (ci := 1) (v := .ref p3) (C := RX1) (T := TX1) (N := 6) hx hb hts inG_X1 hown hK hP 5 rfl rfl 2 (by decide) (hts _ kw_1_102) (fun _ h9 => h9) rfl dX1_copyFrom_32 ?_
  refine lv_iconst (v := 0) hx hb dX1_copyFrom_35 (by decide) ?_
  refine lv_aload_n hx hb dX1_copyFrom_36 rfl (lv_at hl 0 rfl) ?_
  refine va_get (D := D) (ci := 1) (v := .ref q3) (C := RX1) (T := TX1) (N := 6) hx hb hts inG_X1 hown hK hP 0 rfl rfl 2 (by decide) (hts _ kw_1_102) (fun _ h9 => h9) rfl dX1_copyFrom_37 ?_
  refine lv_iconst (v := 0) hx hb dX1_copyFrom_40 (by decide) ?_
  refine lv_iconst (v := 4) hx hb dX1_copyFrom_41 (by decide) ?_
  refine va_copyi hx hb (by rw [hml]; exact hl.1.symm) hown (hts _ kw_1_96) (hts _ kw_1_98) (hts _ kw_1_97) (hts _ kw_1_5) hK hP hD hS 8 3 6 2 rfl rfl rfl rfl rfl (by decide) (by decide) (by decide) (by decide) (by decide) (fun _ _ => rfl) (Nat.le_of_ble_eq_true rfl) (Nat.le_of_ble_eq_true rfl) dX1_copyFrom_42 (fun H locs hP hD hS => ?_)
  have hP : va_P D vwCl [(h0, .inr (1, [.ref q1, .ref q2, .ref q3, .ref q4, .int n1, .int n2])), (q1, .inl (cy1, 8, .inl g1)), (q2, .inl (cy2, 4, .inl g2)), (q3, .inl (cy3, 4, .inl (va_cpy g3 f3 0 0 4))), (q4, .inl (cy4, 4, .inl f4)), (g0, .inr (1, [.ref p1, .ref p2, .ref p3, .ref p4, .int m1, .int m2])), (p1, .inl (dy1, 8, .inl g1)), (p2, .inl (dy2, 4, .inl g2)), (p3, .inl (dy3, 4, .inl g3)), (p4, .inl (dy4, 4, .inl g4))] H := hP
  have hD : va_D A [(h0, .inr (1, [.ref q1, .ref q2, .ref q3, .ref q4, .int n1, .int n2])), (q1, .inl (cy1, 8, .inl g1)), (q2, .inl (cy2, 4, .inl g2)), (q3, .inl (cy3, 4, .inl (va_cpy g3 f3 0 0 4))), (q4, .inl (cy4, 4, .inl f4)), (g0, .inr (1, [.ref p1, .ref p2, .ref p3, .ref p4, .int m1, .int m2])), (p1, .inl (dy1, 8, .inl g1)), (p2, .inl (dy2, 4, .inl g2)), (p3, .inl (dy3, 4, .inl g3)), (p4, .inl (dy4, 4, .inl g4))] := hD
  have hP := va_P_arr hP 3 g3 rfl (fun j hj => sb_cpy0 hj)
  have hP : va_P D vwCl [(h0, .inr (1, [.ref q1, .ref q2, .ref q3, .ref q4, .int n1, .int n2])), (q1, .inl (cy1, 8, .inl g1)), (q2, .inl (cy2, 4, .inl g2)), (q3, .inl (cy3, 4, .inl g3)), (q4, .inl (cy4, 4, .inl f4)), (g0, .inr (1, [.ref p1, .ref p2, .ref p3, .ref p4, .int m1, .int m2])), (p1, .inl (dy1, 8, .inl g1)), (p2, .inl (dy2, 4, .inl g2)), (p3, .inl (dy3, 4, .inl g3)), (p4, .inl (dy4, 4, .inl g4))] H := hP
  have hD : va_D A [(h0, .inr (1, [.ref q1, .ref q2, .ref q3, .ref q4, .int n1, .int n2])), (q1, .inl (cy1, 8, .inl g1)), (q2, .inl (cy2, 4, .inl g2)), (q3, .inl (cy3, 4, .inl g3)), (q4, .inl (cy4, 4, .inl f4)), (g0, .inr (1, [.ref p1, .ref p2, .ref p3, .ref p4, .int m1, .int m2])), (p1, .inl (dy1, 8, .inl g1)), (p2, .inl (dy2, 4, .inl g2)), (p3, .inl (dy3, 4, .inl g3)), (p4, .inl (dy4, 4, .inl g4))] := va_D_same hD rfl
  refine lv_aload_n hx hb dX1_copyFrom_45 rfl (lv_at hl 1 rfl) ?_
  refine va_get (D := D) (ci := 1) (v := .ref p4) (C := RX1) (T := TX1) (N := 6) hx hb hts inG_X1 hown hK hP 5 rfl rfl 3 (by decide) (hts _ kw_1_104) (fun _ h9 => h9) rfl dX1_copyFrom_46 ?_
  refine lv_iconst (v := 0) hx hb dX1_copyFrom_49 (by decide) ?_
  refine lv_aload_n hx hb dX1_copyFrom_50 rfl (lv_at hl 0 rfl) ?_
  refine va_get (D := D) (ci := 1) (v := .ref q4) (C := RX1) (T := TX1) (N := 6) hx hb hts inG_X1 hown hK hP 0 rfl rfl 3 (by decide) (hts _ kw_1_104) (fun _ h9 => h9) rfl dX1_copyFrom_51 ?_
  refine lv_iconst (v := 0) hx hb dX1_copyFrom_54 (by decide) ?_
  refine lv_iconst (v := 4) hx hb dX1_copyFrom_55 (by decide) ?_
  refine va_copyi hx hb (by rw [hml]; exact hl.1.symm) hown (hts _ kw_1_96) (hts _ kw_1_98) (hts _ kw_1_97) (hts _ kw_1_5) hK hP hD hS 9 4 7 3 rfl rfl rfl rfl rfl (by decide) (by decide) (by decide) (by decide) (by decide) (fun _ _ => rfl) (Nat.le_of_ble_eq_true rfl) (Nat.le_of_ble_eq_true rfl) dX1_copyFrom_56 (fun H locs hP hD hS => ?_)
  have hP : va_P D vwCl [(h0, .inr (1, [.ref q1, .ref q2, .ref q3, .ref q4, .int n1, .int n2])), (q1, .inl (cy1, 8, .inl g1)), (q2, .inl (cy2, 4, .inl g2)), (q3, .inl (cy3, 4, .inl g3)), (q4, .inl (cy4, 4, .inl (va_cpy g4 f4 0 0 4))), (g0, .inr (1, [.ref p1, .ref p2, .ref p3, .ref p4, .int m1, .int m2])), (p1, .inl (dy1, 8, .inl g1)), (p2, .inl (dy2, 4, .inl g2)), (p3, .inl (dy3, 4, .inl g3)), (p4, .inl (dy4, 4, .inl g4))] H := hP
  have hD : va_D A [(h0, .inr (1, [.ref q1, .ref q2, .ref q3, .ref q4, .int n1, .int n2])), (q1, .inl (cy1, 8, .inl g1)), (q2, .inl (cy2, 4, .inl g2)), (q3, .inl (cy3, 4, .inl g3)), (q4, .inl (cy4, 4, .inl (va_cpy g4 f4 0 0 4))), (g0, .inr (1, [.ref p1, .ref p2, .ref p3, .ref p4, .int m1, .int m2])), (p1, .inl (dy1, 8, .inl g1)), (p2, .inl (dy2, 4, .inl g2)), (p3, .inl (dy3, 4, .inl g3)), (p4, .inl (dy4, 4, .inl g4))] := hD
  have hP := va_P_arr hP 4 g4 rfl (fun j hj => sb_cpy0 hj)
  have hP : va_P D vwCl [(h0, .inr (1, [.ref q1, .ref q2, .ref q3, .ref q4, .int n1, .int n2])), (q1, .inl (cy1, 8, .inl g1)), (q2, .inl (cy2, 4, .inl g2)), (q3, .inl (cy3, 4, .inl g3)), (q4, .inl (cy4, 4, .inl g4)), (g0, .inr (1, [.ref p1, .ref p2, .ref p3, .ref p4, .int m1, .int m2])), (p1, .inl (dy1, 8, .inl g1)), (p2, .inl (dy2, 4, .inl g2)), (p3, .inl (dy3, 4, .inl g3)), (p4, .inl (dy4, 4, .inl g4))] H := hP
  have hD : va_D A [(h0, .inr (1, [.ref q1, .ref q2, .ref q3, .ref q4, .int n1, .int n2])), (q1, .inl (cy1, 8, .inl g1)), (q2, .inl (cy2, 4, .inl g2)), (q3, .inl (cy3, 4, .inl g3)), (q4, .inl (cy4, 4, .inl g4)), (g0, .inr (1, [.ref p1, .ref p2, .ref p3, .ref p4, .int m1, .int m2])), (p1, .inl (dy1, 8, .inl g1)), (p2, .inl (dy2, 4, .inl g2)), (p3, .inl (dy3, 4, .inl g3)), (p4, .inl (dy4, 4, .inl g4))] := va_D_same hD rfl
  refine lv_aload_n hx hb dX1_copyFrom_59 rfl (lv_at hl 0 rfl) ?_
  refine lv_aload_n hx hb dX1_copyFrom_60 rfl (lv_at hl 1 rfl) ?_
  refine va_get (D := D) (ci := 1) (v := .int m1) (C := RX1) (T := TX1) (N := 6) hx hb hts inG_X1 hown hK hP 5 rfl rfl 4 (by decide) (hts _ kw_1_106) (fun _ h9 => h9) rfl dX1_copyFrom_61 ?_
  refine va_put (D := D) (ci := 1) (v := .int m1) (ty := .int) (C := RX1) (T := TX1) (N := 6) hx hb hts inG_X1 tyX1 tyX1_ok nmX1 hown hK hP hD hS 0 rfl rfl 4 (by decide) (hts _ kw_1_106) (fun _ h9 => h9) rfl (by decide +kernel) rfl rfl (Nat.le_of_ble_eq_true rfl) dX1_copyFrom_64 (fun H locs hP hD hS => ?_)
  have hP : va_P D vwCl [(h0, .inr (1, [.ref q1, .ref q2, .ref q3, .ref q4, .int m1, .int n2])), (q1, .inl (cy1, 8, .inl g1)), (q2, .inl (cy2, 4, .inl g2)), (q3, .inl (cy3, 4, .inl g3)), (q4, .inl (cy4, 4, .inl g4)), (g0, .inr (1, [.ref p1, .ref p2, .ref p3, .ref p4, .int m1, .int m2])), (p1, .inl (dy1, 8, .inl g1)), (p2, .inl (dy2, 4, .inl g2)), (p3, .inl (dy3, 4, .inl g3)), (p4, .inl (dy4, 4, .inl g4))] H := hP
  have hD : va_D A [(h0, .inr (1, [.ref q1, .ref q2, .ref q3, .ref q4, .int m1, .int n2])), (q1, .inl (cy1, 8, .inl g1)), (q2, .inl (cy2, 4, .inl g2)), (q3, .inl (cy3, 4, .inl g3)), (q4, .inl (cy4, 4, .inl g4)), (g0, .inr (1, [.ref p1, .ref p2, .ref p3, .ref p4, .int m1, .int m2])), (p1, .inl (dy1, 8, .inl g1)), (p2, .inl (dy2, 4, .inl g2)), (p3, .inl (dy3, 4, .inl g3)), (p4, .inl (dy4, 4, .inl g4))] := hD
  refine lv_aload_n hx hb dX1_copyFrom_67 rfl (lv_at hl 0 rfl) ?_
  refine lv_aload_n hx hb dX1_copyFrom_68 rfl (lv_at hl 1 rfl) ?_
  refine va_get (D := D) (ci := 1) (v := .int m2) (C := RX1) (T := TX1) (N := 6) hx hb hts inG_X1 hown hK hP 5 rfl rfl 5 (by decide) (hts _ kw_1_110) (fun _ h9 => h9) rfl dX1_copyFrom_69 ?_
  refine va_put (D := D) (ci := 1) (v := .int m2) (ty := .int) (C := RX1) (T := TX1) (N := 6) hx hb hts inG_X1 tyX1 tyX1_ok nmX1 hown hK hP hD hS 0 rfl rfl 5 (by decide) (hts _ kw_1_110) (fun _ h9 => h9) rfl (by decide +kernel) rfl rfl (Nat.le_of_ble_eq_true rfl) dX1_copyFrom_72 (fun H locs hP hD hS => ?_)
  have hP : va_P D vwCl [(h0, .inr (1, [.ref q1, .ref q2, .ref q3, .ref q4, .int m1, .int m2])), (q1, .inl (cy1, 8, .inl g1)), (q2, .inl (cy2, 4, .inl g2)), (q3, .inl (cy3, 4, .inl g3)), (q4, .inl (cy4, 4, .inl g4)), (g0, .inr (1, [.ref p1, .ref p2, .ref p3, .ref p4, .int m1, .int m2])), (p1, .inl (dy1, 8, .inl g1)), (p2, .inl (dy2, 4, .inl g2)), (p3, .inl (dy3, 4, .inl g3)), (p4, .inl (dy4, 4, .inl g4))] H := hP
  have hD : va_D A [(h0, .inr (1, [.ref q1, .ref q2, .ref q3, .ref q4, .int m1, .int m2])), (q1, .inl (cy1, 8, .inl g1)), (q2, .inl (cy2, 4, .inl g2)), (q3, .inl (cy3, 4, .inl g3)), (q4, .inl (cy4, 4, .inl g4)), (g0, .inr (1, [.ref p1, .ref p2, .ref p3, .ref p4, .int m1, .int m2])), (p1, .inl (dy1, 8, .inl g1)), (p2, .inl (dy2, 4, .inl g2)), (p3, .inl (dy3, 4, .inl g3)), (p4, .inl (dy4, 4, .inl g4))] := hD
  have hP9 := hP.sub (ws' := [(h0, .inr (1, [.ref q1, .ref q2, .ref q3, .ref q4, .int m1, .int m2])), (q1, .inl (cy1, 8, .inl g1)), (q2, .inl (cy2, 4, .inl g2)), (q3, .inl (cy3, 4, .inl g3)), (q4, .inl (cy4, 4, .inl g4)), (g0, .inr (1, [.ref p1, .ref p2, .ref p3, .ref p4, .int m1, .int m2])), (p1, .inl (dy1, 8, .inl g1)), (p2, .inl (dy2, 4, .inl g2)), (p3, .inl (dy3, 4, .inl g3)), (p4, .inl (dy4, 4, .inl g4))]) [0, 1, 2, 3, 4, 5, 6, 7, 8, 9] rfl
  have hD9 := hD.sub (ws' := [(h0, .inr (1, [.ref q1, .ref q2, .ref q3, .ref q4, .int m1, .int m2])), (q1, .inl (cy1, 8, .inl g1)), (q2, .inl (cy2, 4, .inl g2)), (q3, .inl (cy3, 4, .inl g3)), (q4, .inl (cy4, 4, .inl g4)), (g0, .inr (1, [.ref p1, .ref p2, .ref p3, .ref p4, .int m1, .int m2])), (p1, .inl (dy1, 8, .inl g1)), (p2, .inl (dy2, 4, .inl g2)), (p3, .inl (dy3, 4, .inl g3)), (p4, .inl (dy4, 4, .inl g4))]) [0, 1, 2, 3, 4, 5, 6, 7, 8, 9] (by decide) rfl
  have hK9 := hK.sub (tys' := []) [] rfl
  refine W.widen (k := 0) (n := 0) (by decide) (by decide) ?_
  exact W.vret hx hb hr (fun t ht hW => ⟨⟨(), rfl, trivial, by rw [ht]; exact hP9, va_K.moved hW.alike hK9, hD9⟩, hS.F ht⟩) hS.2.2 dX1_copyFrom_75
theorem dX2_takeToken_0 : decode cX2_takeToken 0 = .ok (.aload_n 0, 1) := by decide +kernel
theorem kw_1_61 : Cond.fieldLink RX2 28 "IceFair$CustomsReader" "next" "I" ∈ gw := gw_t1 (List.mem_of_getElem? (i := 61) (by decide +kernel)) (by decide +kernel)
theorem dX2_takeToken_1 : decode cX2_takeToken 1 = .ok (.getfield 28, 3) := by decide +kernel
theorem dX2_takeToken_4 : decode cX2_takeToken 4 = .ok (.aload_n 0, 1) := by decide +kernel
theorem kw_1_60 : Cond.fieldLink RX2 25 "IceFair$CustomsReader" "length" "I" ∈ gw := gw_t1 (List.mem_of_getElem? (i := 60) (by decide +kernel)) (by decide +kernel)
theorem dX2_takeToken_5 : decode cX2_takeToken 5 = .ok (.getfield 25, 3) := by decide +kernel
theorem dX2_takeToken_8 : decode cX2_takeToken 8 = .ok (.if_icmp .ge 30, 3) := by decide +kernel
theorem dX2_takeToken_38 : decode cX2_takeToken 38 = .ok (.aload_n 0, 1) := by decide +kernel
theorem dX2_takeToken_39 : decode cX2_takeToken 39 = .ok (.aload_n 0, 1) := by decide +kernel
theorem dX2_takeToken_40 : decode cX2_takeToken 40 = .ok (.getfield 28, 3) := by decide +kernel
theorem kw_1_63 : Cond.fieldLink RX2 50 "IceFair$CustomsReader" "start" "I" ∈ gw := gw_t1 (List.mem_of_getElem? (i := 63) (by decide +kernel)) (by decide +kernel)
theorem dX2_takeToken_43 : decode cX2_takeToken 43 = .ok (.putfield 50, 3) := by decide +kernel
theorem dX2_takeToken_46 : decode cX2_takeToken 46 = .ok (.aload_n 0, 1) := by decide +kernel
theorem dX2_takeToken_47 : decode cX2_takeToken 47 = .ok (.getfield 28, 3) := by decide +kernel
theorem dX2_takeToken_50 : decode cX2_takeToken 50 = .ok (.aload_n 0, 1) := by decide +kernel
theorem dX2_takeToken_51 : decode cX2_takeToken 51 = .ok (.getfield 25, 3) := by decide +kernel
theorem dX2_takeToken_54 : decode cX2_takeToken 54 = .ok (.if_icmp .lt 11, 3) := by decide +kernel
theorem dX2_takeToken_57 : decode cX2_takeToken 57 = .ok (.aload_n 0, 1) := by decide +kernel
theorem dX2_takeToken_58 : decode cX2_takeToken 58 = .ok (.iconst 0, 1) := by decide +kernel
theorem kw_1_62 : Cond.fieldLink RX2 39 "IceFair$CustomsReader" "token" "I" ∈ gw := gw_t1 (List.mem_of_getElem? (i := 62) (by decide +kernel)) (by decide +kernel)
theorem dX2_takeToken_59 : decode cX2_takeToken 59 = .ok (.putfield 39, 3) := by decide +kernel
theorem dX2_takeToken_62 : decode cX2_takeToken 62 = .ok (.goto 77, 3) := by decide +kernel
theorem dX2_takeToken_139 : decode cX2_takeToken 139 = .ok (.return_, 1) := by decide +kernel
set_option maxHeartbeats 4000000 in
set_option maxRecDepth 100000 in
theorem c_take_end (l : Launch) (D : va_G) (h0 : Nat) (qv : Nat) (qt : Nat) (fk : Int32) (fp : Int32) (t1 : Int32) (s1 : Int32) (v1 : Int32) : cV l yX2_takeToken (.code yX2_takeToken cX2_takeToken 1 none) ({ frames := 2, cells := 0, slots := 0, locals := 80 }) D [] [(h0, .inr (2, [.int fk, .int fp, .ref qv, .ref qt, .int 0, .int 0, .int t1, .int s1, .int v1]))] xT [.ref h0] (S := Unit) (fun _ => True) (fun _ => []) (fun _ => [(h0, .inr (2, [.int fk, .int fp, .ref qv, .ref qt, .int 0, .int 0, .int 0, .int 0, .int v1]))]) := by
  intro sz
  refine Met.ofW (cc := cX2_takeToken) (maxL := 1) (ret := none) (by decide) rfl ?_
  intro p e s m args below meth c s₁ B hml hv
  obtain ⟨rfl, hsz, hP, hK, hD0, hX⟩ := hv
  have hx := B.exec
  have hb := B.bytes
  have hr := B.returns
  have hts0 := atoms_spec (ws := .code yX2_takeToken cX2_takeToken 1 none :: gw) B.pre
  have hts := fun (w : Cond) (h : w ∈ gw) => hts0 w (List.mem_cons_of_mem _ h)
  have hown : s.vm.findClass RX2 = some m.cls := findClass_of_methodNamed B.named
  have hlocks := B.notSynchronized
  have F : mFix p s m _ c cX2_takeToken 1 RX2 := ⟨hx, hb, hml, hown, hts⟩
  subst hsz
  have hD := hD0.self (sz := s.heap.size)
  generalize hAe : va_A [(h0, .inr (2, [.int fk, .int fp, .ref qv, .ref qt, .int 0, .int 0, .int t1, .int s1, .int v1]))] s.heap.size = A at hD hX ⊢
  have hA : ∀ q : Nat, s.heap.size ≤ q → A q := fun q h => by rw [← hAe]; exact Or.inr h
  have hS : va_S A s.heap s.heap [] := va_S.rf
  have hl := lv_entry ([.ref h0]) (n := 1) (Nat.le_of_ble_eq_true rfl)
  rw [lg_entry_eq]
  generalize (lg_sl ([.ref h0]) ++ List.replicate (1 - (lg_sl ([.ref h0])).length) Slot.unset).toArray = ls at hl ⊢
  have hl : lv_has ls 1 [(0, .ref h0)] := hl
  have hP : va_P D vwCl [(h0, .inr (2, [.int fk, .int fp, .ref qv, .ref qt, .int 0, .int 0, .int t1, .int s1, .int v1]))] s.heap := hP
  refine lv_aload_n hx hb dX2_takeToken_0 rfl (lv_at hl 0 rfl) ?_
  refine va_get (D := D) (ci := 2) (v := .int 0) (C := RX2) (T := TX2) (N := 9) hx hb hts inG_X2 hown hK hP 0 rfl rfl 5 (by decide) (hts _ kw_1_61) (fun _ h9 => h9) rfl dX2_takeToken_1 ?_
  refine lv_aload_n hx hb dX2_takeToken_4 rfl (lv_at hl 0 rfl) ?_
  refine va_get (D := D) (ci := 2) (v := .int 0) (C := RX2) (T := TX2) (N := 9) hx hb hts inG_X2 hown hK hP 0 rfl rfl 4 (by decide) (hts _ kw_1_60) (fun _ h9 => h9) rfl dX2_takeToken_5 ?_
  refine lv_icmp_ge (tgt := 38) hx hb dX2_takeToken_8 (by decide) (fun c_1 => ?_) (fun c_1 => absurd c_1 (by decide))
  refine lv_aload_n hx hb dX2_takeToken_38 rfl (lv_at hl 0 rfl) ?_
  refine lv_aload_n hx hb dX2_takeToken_39 rfl (lv_at hl 0 rfl) ?_
  refine va_get (D := D) (ci := 2) (v := .int 0) (C := RX2) (T := TX2) (N := 9) hx hb hts inG_X2 hown hK hP 0 rfl rfl 5 (by decide) (hts _ kw_1_61) (fun _ h9 => h9) rfl dX2_takeToken_40 ?_
  refine va_put (D := D) (ci := 2) (v := .int 0) (ty := .int) (C := RX2) (T := TX2) (N := 9) hx hb hts inG_X2 tyX2 tyX2_ok nmX2 hown hK hP hD hS 0 rfl rfl 7 (by decide) (hts _ kw_1_63) (fun _ h9 => h9) rfl (by decide +kernel) rfl rfl (Nat.le_of_ble_eq_true rfl) dX2_takeToken_43 (fun H locs hP hD hS => ?_)
  have hP : va_P D vwCl [(h0, .inr (2, [.int fk, .int fp, .ref qv, .ref qt, .int 0, .int 0, .int t1, .int 0, .int v1]))] H := hP
  have hD : va_D A [(h0, .inr (2, [.int fk, .int fp, .ref qv, .ref qt, .int 0, .int 0, .int t1, .int 0, .int v1]))] := hD
  refine lv_aload_n hx hb dX2_takeToken_46 rfl (lv_at hl 0 rfl) ?_
  refine va_get (D := D) (ci := 2) (v := .int 0) (C := RX2) (T := TX2) (N := 9) hx hb hts inG_X2 hown hK hP 0 rfl rfl 5 (by decide) (hts _ kw_1_61) (fun _ h9 => h9) rfl dX2_takeToken_47 ?_
  refine lv_aload_n hx hb dX2_takeToken_50 rfl (lv_at hl 0 rfl) ?_
  refine va_get (D := D) (ci := 2) (v := .int 0) (C := RX2) (T := TX2) (N := 9) hx hb hts inG_X2 hown hK hP 0 rfl rfl 4 (by decide) (hts _ kw_1_60) (fun _ h9 => h9) rfl dX2_takeToken_51 ?_
  refine lv_icmp_lt (tgt := 65) hx hb dX2_takeToken_54 (by decide) (fun c_2 => absurd c_2 (by decide)) (fun c_2 => ?_)
  refine lv_aload_n hx hb dX2_takeToken_57 rfl (lv_at hl 0 rfl) ?_
  refine lv_iconst (v := 0) hx hb dX2_takeToken_58 (by decide) ?_
  refine va_put (D := D) (ci := 2) (v := .int 0) (ty := .int) (C := RX2) (T := TX2) (N := 9) hx hb hts inG_X2 tyX2 tyX2_ok nmX2 hown hK hP hD hS 0 rfl rfl 6 (by decide) (hts _ kw_1_62) (fun _ h9 => h9) rfl (by decide +kernel) rfl rfl (Nat.le_of_ble_eq_true rfl) dX2_takeToken_59 (fun H locs hP hD hS => ?_)
  have hP : va_P D vwCl [(h0, .inr (2, [.int fk, .int fp, .ref qv, .ref qt, .int 0, .int 0, .int 0, .int 0, .int v1]))] H := hP
  have hD : va_D A [(h0, .inr (2, [.int fk, .int fp, .ref qv, .ref qt, .int 0, .int 0, .int 0, .int 0, .int v1]))] := hD
  refine lv_goto (tgt := 139) hx hb dX2_takeToken_62 (by decide) ?_
  have hP9 := hP.sub (ws' := [(h0, .inr (2, [.int fk, .int fp, .ref qv, .ref qt, .int 0, .int 0, .int 0, .int 0, .int v1]))]) [0] rfl
  have hD9 := hD.sub (ws' := [(h0, .inr (2, [.int fk, .int fp, .ref qv, .ref qt, .int 0, .int 0, .int 0, .int 0, .int v1]))]) [0] (by decide) rfl
  have hK9 := hK.sub (tys' := []) [] rfl
  refine W.widen (k := 0) (n := 0) (by decide) (by decide) ?_
  exact W.vret hx hb hr (fun t ht hW => ⟨⟨(), rfl, trivial, by rw [ht]; exact hP9, va_K.moved hW.alike hK9, hD9⟩, hS.F ht⟩) hS.2.2 dX2_takeToken_139
theorem dX2_read_0 : decode cX2_read 0 = .ok (.aload_n 0, 1) := by decide +kernel
theorem dX2_read_1 : decode cX2_read 1 = .ok (.aload_n 1, 1) := by decide +kernel
theorem dX2_read_2 : decode cX2_read 2 = .ok (.putfield 22, 3) := by decide +kernel
theorem dX2_read_5 : decode cX2_read 5 = .ok (.aload_n 0, 1) := by decide +kernel
theorem dX2_read_6 : decode cX2_read 6 = .ok (.iload_n 2, 1) := by decide +kernel
theorem dX2_read_7 : decode cX2_read 7 = .ok (.aload_n 1, 1) := by decide +kernel
theorem dX2_read_8 : decode cX2_read 8 = .ok (.arraylength, 1) := by decide +kernel
theorem dX2_read_9 : decode cX2_read 9 = .ok (.if_icmp .ge 7, 3) := by decide +kernel
theorem dX2_read_12 : decode cX2_read 12 = .ok (.iload_n 2, 1) := by decide +kernel
theorem dX2_read_13 : decode cX2_read 13 = .ok (.goto 5, 3) := by decide +kernel
theorem dX2_read_18 : decode cX2_read 18 = .ok (.putfield 25, 3) := by decide +kernel
theorem dX2_read_21 : decode cX2_read 21 = .ok (.aload_n 0, 1) := by decide +kernel
theorem dX2_read_22 : decode cX2_read 22 = .ok (.iconst 0, 1) := by decide +kernel
theorem dX2_read_23 : decode cX2_read 23 = .ok (.putfield 28, 3) := by decide +kernel
theorem dX2_read_26 : decode cX2_read 26 = .ok (.aload_n 0, 1) := by decide +kernel
theorem dX2_read_27 : decode cX2_read 27 = .ok (.iconst 0, 1) := by decide +kernel
theorem dX2_read_28 : decode cX2_read 28 = .ok (.putfield 9, 3) := by decide +kernel
theorem dX2_read_31 : decode cX2_read 31 = .ok (.aload_n 0, 1) := by decide +kernel
theorem dX2_read_32 : decode cX2_read 32 = .ok (.iconst (-1), 1) := by decide +kernel
theorem dX2_read_33 : decode cX2_read 33 = .ok (.putfield 15, 3) := by decide +kernel
theorem dX2_read_36 : decode cX2_read 36 = .ok (.aload_n 3, 1) := by decide +kernel
theorem kw_2_102 : Cond.methodLink RX2 31 yX1_forget ∈ gw := gw_t2 (List.mem_of_getElem? (i := 102) (by decide +kernel)) (by decide +kernel)
theorem gk_X2_31 : GoodIn gw (wsV RX2 31 RX1 yX1_forget (.code yX1_forget cX1_forget 1 none :: gw)) ∧ (yX1_forget.cls = RX1 ∧ yX1_forget.cls ≠ "java/lang/invoke/MethodHandle" ∧ yX1_forget.cls ≠ "java/lang/invoke/VarHandle" ∧ (parseMethodDescriptor yX1_forget.desc).map (fun d => d.parameters.length) = some 0) := ⟨gi_V kw_2_102 kw_1_93 kw_1_94 kw_1_4 kw_1_95, by decide +kernel⟩
theorem dX2_read_37 : decode cX2_read 37 = .ok (.invokevirtual 31, 3) := by decide +kernel
theorem dX2_read_40 : decode cX2_read 40 = .ok (.iconst 0, 1) := by decide +kernel
theorem dX2_read_41 : decode cX2_read 41 = .ok (.istore 4, 2) := by decide +kernel
theorem dX2_read_43 : decode cX2_read 43 = .ok (.iload 4, 2) := by decide +kernel
theorem dX2_read_45 : decode cX2_read 45 = .ok (.aload_n 0, 1) := by decide +kernel
theorem dX2_read_46 : decode cX2_read 46 = .ok (.getfield 25, 3) := by decide +kernel
theorem dX2_read_49 : decode cX2_read 49 = .ok (.if_icmp .gt 33, 3) := by decide +kernel
theorem dX2_read_52 : decode cX2_read 52 = .ok (.aload_n 0, 1) := by decide +kernel
theorem kw_2_103 : Cond.methodLink RX2 36 yX2_takeToken ∈ gw := gw_t2 (List.mem_of_getElem? (i := 103) (by decide +kernel)) (by decide +kernel)
theorem kw_2_105 : Cond.instanceMethod yX2_takeToken ∈ gw := gw_t2 (List.mem_of_getElem? (i := 105) (by decide +kernel)) (by decide +kernel)
theorem ks_1_0 : Cond.selects RX2 yX2_takeToken yX2_takeToken ∈ gw := gw_s (y := yX2_takeToken) (n := 9) (List.mem_append_left _ (List.mem_of_getElem? (i := 0) (by decide +kernel)))
theorem kw_2_106 : Cond.code yX2_takeToken cX2_takeToken 1 none ∈ gw := gw_t2 (List.mem_of_getElem? (i := 106) (by decide +kernel)) (by decide +kernel)
theorem gk_X2_36 : GoodIn gw (wsV RX2 36 RX2 yX2_takeToken (.code yX2_takeToken cX2_takeToken 1 none :: gw)) ∧ (yX2_takeToken.cls = RX2 ∧ yX2_takeToken.cls ≠ "java/lang/invoke/MethodHandle" ∧ yX2_takeToken.cls ≠ "java/lang/invoke/VarHandle" ∧ (parseMethodDescriptor yX2_takeToken.desc).map (fun d => d.parameters.length) = some 0) := ⟨gi_V kw_2_103 kw_2_105 ks_1_0 kw_1_3 kw_2_106, by decide +kernel⟩
theorem dX2_read_53 : decode cX2_read 53 = .ok (.invokevirtual 36, 3) := by decide +kernel
theorem dX2_read_56 : decode cX2_read 56 = .ok (.aload_n 0, 1) := by decide +kernel
theorem dX2_read_57 : decode cX2_read 57 = .ok (.getfield 39, 3) := by decide +kernel
theorem dX2_read_60 : decode cX2_read 60 = .ok (.ifCond .ne 6, 3) := by decide +kernel
theorem dX2_read_63 : decode cX2_read 63 = .ok (.iload 4, 2) := by decide +kernel
theorem dX2_read_65 : decode cX2_read 65 = .ok (.ireturn, 1) := by decide +kernel
set_option maxHeartbeats 4000000 in
set_option maxRecDepth 100000 in
theorem c_read0 (l : Launch) (D : va_G) (us : Nat) (h0 : Nat) (qv : Nat) (qt : Nat) (qb : Nat) (g0 : Nat) (p1 : Nat) (p2 : Nat) (p3 : Nat) (p4 : Nat) (yb : ClassId) (dy1 : ClassId) (dy2 : ClassId) (dy3 : ClassId) (dy4 : ClassId) (fb : Nat → Int32) (g1 : Nat → Int32) (g2 : Nat → Int32) (g3 : Nat → Int32) (g4 : Nat → Int32) (m1 : Int32) (m2 : Int32) : cI l yX2_read (.code yX2_read cX2_read 5 (some .int)) ({ frames := 5, cells := 0, slots := 0, locals := 146 }) D [(yb, .int), (dy1, .int), (dy2, .int), (dy3, .int), (dy4, .int)] [(h0, .inr (2, [.int 0, .int ((-1)), .ref qv, .ref qt, .int 0, .int 0, .int 0, .int 0, .int 0])), (qb, .inl (yb, 400, .inl fb)), (g0, .inr (1, [.ref p1, .ref p2, .ref p3, .ref p4, .int m1, .int m2])), (p1, .inl (dy1, 8, .inl g1)), (p2, .inl (dy2, 4, .inl g2)), (p3, .inl (dy3, 4, .inl g3)), (p4, .inl (dy4, 4, .inl g4))] (xU us) [.ref h0, .ref qb, .int 0, .ref g0] (S := Unit) (fun r _ => r = 0) (fun _ => []) (fun _ => [(h0, .inr (2, [.int 0, .int ((-1)), .ref qv, .ref qb, .int 0, .int 0, .int 0, .int 0, .int 0])), (qb, .inl (yb, 400, .inl fb)), (g0, .inr (1, [.ref p1, .ref p2, .ref p3, .ref p4, .int 0, .int 0])), (p1, .inl (dy1, 8, .inl uF)), (p2, .inl (dy2, 4, .inl g2)), (p3, .inl (dy3, 4, .inl g3)), (p4, .inl (dy4, 4, .inl g4))]) := by
  intro sz
  refine Met.ofW (cc := cX2_read) (maxL := 5) (ret := (some .int)) (by decide) rfl ?_
  intro p e s m args below meth c s₁ B hml hv
  obtain ⟨rfl, hsz, hP, hK, hD0, hX⟩ := hv
  have hx := B.exec
  have hb := B.bytes
  have hr := B.returns
  have hts0 := atoms_spec (ws := .code yX2_read cX2_read 5 (some .int) :: gw) B.pre
  have hts := fun (w : Cond) (h : w ∈ gw) => hts0 w (List.mem_cons_of_mem _ h)
  have hown : s.vm.findClass RX2 = some m.cls := findClass_of_methodNamed B.named
  have hlocks := B.notSynchronized
  have F : mFix p s m _ c cX2_read 5 RX2 := ⟨hx, hb, hml, hown, hts⟩
  subst hsz
  have hD := hD0.self (sz := s.heap.size)
  generalize hAe : va_A [(h0, .inr (2, [.int 0, .int ((-1)), .ref qv, .ref qt, .int 0, .int 0, .int 0, .int 0, .int 0])), (qb, .inl (yb, 400, .inl fb)), (g0, .inr (1, [.ref p1, .ref p2, .ref p3, .ref p4, .int m1, .int m2])), (p1, .inl (dy1, 8, .inl g1)), (p2, .inl (dy2, 4, .inl g2)), (p3, .inl (dy3, 4, .inl g3)), (p4, .inl (dy4, 4, .inl g4))] s.heap.size = A at hD hX ⊢
  have hA : ∀ q : Nat, s.heap.size ≤ q → A q := fun q h => by rw [← hAe]; exact Or.inr h
  have hS : va_S A s.heap s.heap [] := va_S.rf
  have hl := lv_entry ([.ref h0, .ref qb, .int 0, .ref g0]) (n := 5) (Nat.le_of_ble_eq_true rfl)
  rw [lg_entry_eq]
  generalize (lg_sl ([.ref h0, .ref qb, .int 0, .ref g0]) ++ List.replicate (5 - (lg_sl ([.ref h0, .ref qb, .int 0, .ref g0])).length) Slot.unset).toArray = ls at hl ⊢
  have hl : lv_has ls 5 [(0, .ref h0), (1, .ref qb), (2, .int 0), (3, .ref g0)] := hl
  have hP : va_P D vwCl [(h0, .inr (2, [.int 0, .int ((-1)), .ref qv, .ref qt, .int 0, .int 0, .int 0, .int 0, .int 0])), (qb, .inl (yb, 400, .inl fb)), (g0, .inr (1, [.ref p1, .ref p2, .ref p3, .ref p4, .int m1, .int m2])), (p1, .inl (dy1, 8, .inl g1)), (p2, .inl (dy2, 4, .inl g2)), (p3, .inl (dy3, 4, .inl g3)), (p4, .inl (dy4, 4, .inl g4))] s.heap := hP
  refine lv_aload_n hx hb dX2_read_0 rfl (lv_at hl 0 rfl) ?_
  refine lv_aload_n hx hb dX2_read_1 rfl (lv_at hl 1 rfl) ?_
  refine va_put (D := D) (ci := 2) (v := .ref qb) (ty := .array .int) (C := RX2) (T := TX2) (N := 9) hx hb hts inG_X2 tyX2 tyX2_ok nmX2 hown hK hP hD hS 0 rfl rfl 3 (by decide) (hts _ kw_1_59) (fun _ h9 => h9) rfl (by decide +kernel) rfl rfl (Nat.le_of_ble_eq_true rfl) dX2_read_2 (fun H locs hP hD hS => ?_)
  have hP : va_P D vwCl [(h0, .inr (2, [.int 0, .int ((-1)), .ref qv, .ref qb, .int 0, .int 0, .int 0, .int 0, .int 0])), (qb, .inl (yb, 400, .inl fb)), (g0, .inr (1, [.ref p1, .ref p2, .ref p3, .ref p4, .int m1, .int m2])), (p1, .inl (dy1, 8, .inl g1)), (p2, .inl (dy2, 4, .inl g2)), (p3, .inl (dy3, 4, .inl g3)), (p4, .inl (dy4, 4, .inl g4))] H := hP
  have hD : va_D A [(h0, .inr (2, [.int 0, .int ((-1)), .ref qv, .ref qb, .int 0, .int 0, .int 0, .int 0, .int 0])), (qb, .inl (yb, 400, .inl fb)), (g0, .inr (1, [.ref p1, .ref p2, .ref p3, .ref p4, .int m1, .int m2])), (p1, .inl (dy1, 8, .inl g1)), (p2, .inl (dy2, 4, .inl g2)), (p3, .inl (dy3, 4, .inl g3)), (p4, .inl (dy4, 4, .inl g4))] := hD
  refine lv_aload_n hx hb dX2_read_5 rfl (lv_at hl 0 rfl) ?_
  refine lv_iload_n hx hb dX2_read_6 rfl (lv_at hl 2 rfl) ?_
  refine lv_aload_n hx hb dX2_read_7 rfl (lv_at hl 1 rfl) ?_
  refine va_alen hx hb hK hP 1 0 rfl rfl (v := 400) rfl dX2_read_8 ?_
  refine lv_icmp_ge (tgt := 16) hx hb dX2_read_9 (by decide) (fun c_1 => absurd c_1 (by decide)) (fun c_1 => ?_)
  refine lv_iload_n hx hb dX2_read_12 rfl (lv_at hl 2 rfl) ?_
  refine lv_goto (tgt := 18) hx hb dX2_read_13 (by decide) ?_
  refine va_put (D := D) (ci := 2) (v := .int 0) (ty := .int) (C := RX2) (T := TX2) (N := 9) hx hb hts inG_X2 tyX2 tyX2_ok nmX2 hown hK hP hD hS 0 rfl rfl 4 (by decide) (hts _ kw_1_60) (fun _ h9 => h9) rfl (by decide +kernel) rfl rfl (Nat.le_of_ble_eq_true rfl) dX2_read_18 (fun H locs hP hD hS => ?_)
  have hP : va_P D vwCl [(h0, .inr (2, [.int 0, .int ((-1)), .ref qv, .ref qb, .int 0, .int 0, .int 0, .int 0, .int 0])), (qb, .inl (yb, 400, .inl fb)), (g0, .inr (1, [.ref p1, .ref p2, .ref p3, .ref p4, .int m1, .int m2])), (p1, .inl (dy1, 8, .inl g1)), (p2, .inl (dy2, 4, .inl g2)), (p3, .inl (dy3, 4, .inl g3)), (p4, .inl (dy4, 4, .inl g4))] H := hP
  have hD : va_D A [(h0, .inr (2, [.int 0, .int ((-1)), .ref qv, .ref qb, .int 0, .int 0, .int 0, .int 0, .int 0])), (qb, .inl (yb, 400, .inl fb)), (g0, .inr (1, [.ref p1, .ref p2, .ref p3, .ref p4, .int m1, .int m2])), (p1, .inl (dy1, 8, .inl g1)), (p2, .inl (dy2, 4, .inl g2)), (p3, .inl (dy3, 4, .inl g3)), (p4, .inl (dy4, 4, .inl g4))] := hD
  refine lv_aload_n hx hb dX2_read_21 rfl (lv_at hl 0 rfl) ?_
  refine lv_iconst (v := 0) hx hb dX2_read_22 (by decide) ?_
  refine va_put (D := D) (ci := 2) (v := .int 0) (ty := .int) (C := RX2) (T := TX2) (N := 9) hx hb hts inG_X2 tyX2 tyX2_ok nmX2 hown hK hP hD hS 0 rfl rfl 5 (by decide) (hts _ kw_1_61) (fun _ h9 => h9) rfl (by decide +kernel) rfl rfl (Nat.le_of_ble_eq_true rfl) dX2_read_23 (fun H locs hP hD hS => ?_)
  have hP : va_P D vwCl [(h0, .inr (2, [.int 0, .int ((-1)), .ref qv, .ref qb, .int 0, .int 0, .int 0, .int 0, .int 0])), (qb, .inl (yb, 400, .inl fb)), (g0, .inr (1, [.ref p1, .ref p2, .ref p3, .ref p4, .int m1, .int m2])), (p1, .inl (dy1, 8, .inl g1)), (p2, .inl (dy2, 4, .inl g2)), (p3, .inl (dy3, 4, .inl g3)), (p4, .inl (dy4, 4, .inl g4))] H := hP
  have hD : va_D A [(h0, .inr (2, [.int 0, .int ((-1)), .ref qv, .ref qb, .int 0, .int 0, .int 0, .int 0, .int 0])), (qb, .inl (yb, 400, .inl fb)), (g0, .inr (1, [.ref p1, .ref p2, .ref p3, .ref p4, .int m1, .int m2])), (p1, .inl (dy1, 8, .inl g1)), (p2, .inl (dy2, 4, .inl g2)), (p3, .inl (dy3, 4, .inl g3)), (p4, .inl (dy4, 4, .inl g4))] := hD
  refine lv_aload_n hx hb dX2_read_26 rfl (lv_at hl 0 rfl) ?_
  refine lv_iconst (v := 0) hx hb dX2_read_27 (by decide) ?_
  refine va_put (D := D) (ci := 2) (v := .int 0) (ty := .int) (C := RX2) (T := TX2) (N := 9) hx hb hts inG_X2 tyX2 tyX2_ok nmX2 hown hK hP hD hS 0 rfl rfl 0 (by decide) (hts _ kw_1_54) (fun _ h9 => h9) rfl (by decide +kernel) rfl rfl (Nat.le_of_ble_eq_true rfl) dX2_read_28 (fun H locs hP hD hS => ?_)
  have hP : va_P D vwCl [(h0, .inr (2, [.int 0, .int ((-1)), .ref qv, .ref qb, .int 0, .int 0, .int 0, .int 0, .int 0])), (qb, .inl (yb, 400, .inl fb)), (g0, .inr (1, [.ref p1, .ref p2, .ref p3, .ref p4, .int m1, .int m2])), (p1, .inl (dy1, 8, .inl g1)), (p2, .inl (dy2, 4, .inl g2)), (p3, .inl (dy3, 4, .inl g3)), (p4, .inl (dy4, 4, .inl g4))] H := hP
  have hD : va_D A [(h0, .inr (2, [.int 0, .int ((-1)), .ref qv, .ref qb, .int 0, .int 0, .int 0, .int 0, .int 0])), (qb, .inl (yb, 400, .inl fb)), (g0, .inr (1, [.ref p1, .ref p2, .ref p3, .ref p4, .int m1, .int m2])), (p1, .inl (dy1, 8, .inl g1)), (p2, .inl (dy2, 4, .inl g2)), (p3, .inl (dy3, 4, .inl g3)), (p4, .inl (dy4, 4, .inl g4))] := hD
  refine lv_aload_n hx hb dX2_read_31 rfl (lv_at hl 0 rfl) ?_
  refine lv_iconst (v := -1) hx hb dX2_read_32 (by decide) ?_
  refine va_put (D := D) (ci := 2) (v := .int ((-1))) (ty := .int) (C := RX2) (T := TX2) (N := 9) hx hb hts inG_X2 tyX2 tyX2_ok nmX2 hown hK hP hD hS 0 rfl rfl 1 (by decide) (hts _ kw_1_56) (fun _ h9 => h9) rfl (by decide +kernel) rfl rfl (Nat.le_of_ble_eq_true rfl) dX2_read_33 (fun H locs hP hD hS => ?_)
  have hP : va_P D vwCl [(h0, .inr (2, [.int 0, .int ((-1)), .ref qv, .ref qb, .int 0, .int 0, .int 0, .int 0, .int 0])), (qb, .inl (yb, 400, .inl fb)), (g0, .inr (1, [.ref p1, .ref p2, .ref p3, .ref p4, .int m1, .int m2])), (p1, .inl (dy1, 8, .inl g1)), (p2, .inl (dy2, 4, .inl g2)), (p3, .inl (dy3, 4, .inl g3)), (p4, .inl (dy4, 4, .inl g4))] H := hP
  have hD : va_D A [(h0, .inr (2, [.int 0, .int ((-1)), .ref qv, .ref qb, .int 0, .int 0, .int 0, .int 0, .int 0])), (qb, .inl (yb, 400, .inl fb)), (g0, .inr (1, [.ref p1, .ref p2, .ref p3, .ref p4, .int m1, .int m2])), (p1, .inl (dy1, 8, .inl g1)), (p2, .inl (dy2, 4, .inl g2)), (p3, .inl (dy3, 4, .inl g3)), (p4, .inl (dy4, 4, .inl g4))] := hD
  refine lv_aload_n hx hb dX2_read_36 rfl (lv_at hl 3 rfl) ?_
  refine mc_Vv (rest := []) (wr := [(h0, .inr (2, [.int 0, .int ((-1)), .ref qv, .ref qb, .int 0, .int 0, .int 0, .int 0, .int 0])), (qb, .inl (yb, 400, .inl fb))]) F hK hP hD hS hA (c_Customs_forget l D us g0 p1 p2 p3 p4 dy1 dy2 dy3 dy4 g1 g2 g3 g4 m1 m2 ) ⟨gk_X2_31.1, gk_X2_31.2, Nat.le_of_ble_eq_true rfl, Nat.le_of_ble_eq_true rfl⟩ [2, 3, 4, 5, 6] [0, 1] [1, 2, 3, 4] ⟨rfl, rfl, rfl, rfl, by decide⟩ rfl (xU_move us) (xU_use hX hS (va_free hD hS hA [2, 3, 4, 5, 6] rfl)) 2 rfl rfl rfl hl.1 rfl (Nat.le_of_ble_eq_true rfl) dX2_read_37 ⟨Nat.le_of_ble_eq_true rfl, Nat.le_of_ble_eq_true rfl⟩ (fun _ H locs hw hK1 hP hD hS => ?_)
  have hP : va_P D vwCl [(h0, .inr (2, [.int 0, .int ((-1)), .ref qv, .ref qb, .int 0, .int 0, .int 0, .int 0, .int 0])), (qb, .inl (yb, 400, .inl fb)), (g0, .inr (1, [.ref p1, .ref p2, .ref p3, .ref p4, .int 0, .int 0])), (p1, .inl (dy1, 8, .inl uF)), (p2, .inl (dy2, 4, .inl g2)), (p3, .inl (dy3, 4, .inl g3)), (p4, .inl (dy4, 4, .inl g4))] H := hP
  have hD : va_D A [(h0, .inr (2, [.int 0, .int ((-1)), .ref qv, .ref qb, .int 0, .int 0, .int 0, .int 0, .int 0])), (qb, .inl (yb, 400, .inl fb)), (g0, .inr (1, [.ref p1, .ref p2, .ref p3, .ref p4, .int 0, .int 0])), (p1, .inl (dy1, 8, .inl uF)), (p2, .inl (dy2, 4, .inl g2)), (p3, .inl (dy3, 4, .inl g3)), (p4, .inl (dy4, 4, .inl g4))] := hD
  refine lv_iconst (v := 0) hx hb dX2_read_40 (by decide) ?_
  refine lv_istore (lv' := [(4, .int 0), (0, .ref h0), (1, .ref qb), (2, .int 0), (3, .ref g0)]) hx hb dX2_read_41 hl (by decide) rfl (fun ls hl => ?_)
  refine lv_iload hx hb dX2_read_43 (lv_at hl 0 rfl) ?_
  refine lv_aload_n hx hb dX2_read_45 rfl (lv_at hl 1 rfl) ?_
  refine va_get (D := D) (ci := 2) (v := .int 0) (C := RX2) (T := TX2) (N := 9) hx hb hts inG_X2 hown hK hP 0 rfl rfl 4 (by decide) (hts _ kw_1_60) (fun _ h9 => h9) rfl dX2_read_46 ?_
  refine lv_icmp_gt (tgt := 82) hx hb dX2_read_49 (by decide) (fun c_4 => absurd c_4 (by decide)) (fun c_4 => ?_)
  refine lv_aload_n hx hb dX2_read_52 rfl (lv_at hl 1 rfl) ?_
  refine mc_Vv (rest := []) (wr := [(qb, .inl (yb, 400, .inl fb)), (g0, .inr (1, [.ref p1, .ref p2, .ref p3, .ref p4, .int 0, .int 0])), (p1, .inl (dy1, 8, .inl uF)), (p2, .inl (dy2, 4, .inl g2)), (p3, .inl (dy3, 4, .inl g3)), (p4, .inl (dy4, 4, .inl g4))]) F hK hP hD hS hA (c_take_end l D h0 qv qb 0 ((-1)) 0 0 0 ) ⟨gk_X2_36.1, gk_X2_36.2, Nat.le_of_ble_eq_true rfl, Nat.le_of_ble_eq_true rfl⟩ [0] [1, 2, 3, 4, 5, 6] [] ⟨rfl, rfl, rfl, rfl, by decide⟩ rfl xT_move (fun _ _ _ => trivial) 0 rfl rfl rfl hl.1 rfl (Nat.le_of_ble_eq_true rfl) dX2_read_53 ⟨Nat.le_of_ble_eq_true rfl, Nat.le_of_ble_eq_true rfl⟩ (fun _ H locs hw hK1 hP hD hS => ?_)
  have hP : va_P D vwCl [(qb, .inl (yb, 400, .inl fb)), (g0, .inr (1, [.ref p1, .ref p2, .ref p3, .ref p4, .int 0, .int 0])), (p1, .inl (dy1, 8, .inl uF)), (p2, .inl (dy2, 4, .inl g2)), (p3, .inl (dy3, 4, .inl g3)), (p4, .inl (dy4, 4, .inl g4)), (h0, .inr (2, [.int 0, .int (((-1))), .ref qv, .ref qb, .int 0, .int 0, .int 0, .int 0, .int 0]))] H := hP
  have hD : va_D A [(qb, .inl (yb, 400, .inl fb)), (g0, .inr (1, [.ref p1, .ref p2, .ref p3, .ref p4, .int 0, .int 0])), (p1, .inl (dy1, 8, .inl uF)), (p2, .inl (dy2, 4, .inl g2)), (p3, .inl (dy3, 4, .inl g3)), (p4, .inl (dy4, 4, .inl g4)), (h0, .inr (2, [.int 0, .int (((-1))), .ref qv, .ref qb, .int 0, .int 0, .int 0, .int 0, .int 0]))] := hD
  refine lv_aload_n hx hb dX2_read_56 rfl (lv_at hl 1 rfl) ?_
  refine va_get (D := D) (ci := 2) (v := .int 0) (C := RX2) (T := TX2) (N := 9) hx hb hts inG_X2 hown hK hP 6 rfl rfl 6 (by decide) (hts _ kw_1_62) (fun _ h9 => h9) rfl dX2_read_57 ?_
  refine lv_if_ne (tgt := 66) hx hb dX2_read_60 (by decide) (fun c_7 => absurd c_7 (by decide)) (fun c_7 => ?_)
  refine lv_iload hx hb dX2_read_63 (lv_at hl 0 rfl) ?_
  have hP9 := hP.sub (ws' := [(h0, .inr (2, [.int 0, .int ((-1)), .ref qv, .ref qb, .int 0, .int 0, .int 0, .int 0, .int 0])), (qb, .inl (yb, 400, .inl fb)), (g0, .inr (1, [.ref p1, .ref p2, .ref p3, .ref p4, .int 0, .int 0])), (p1, .inl (dy1, 8, .inl uF)), (p2, .inl (dy2, 4, .inl g2)), (p3, .inl (dy3, 4, .inl g3)), (p4, .inl (dy4, 4, .inl g4))]) [6, 0, 1, 2, 3, 4, 5] rfl
  have hD9 := hD.sub (ws' := [(h0, .inr (2, [.int 0, .int ((-1)), .ref qv, .ref qb, .int 0, .int 0, .int 0, .int 0, .int 0])), (qb, .inl (yb, 400, .inl fb)), (g0, .inr (1, [.ref p1, .ref p2, .ref p3, .ref p4, .int 0, .int 0])), (p1, .inl (dy1, 8, .inl uF)), (p2, .inl (dy2, 4, .inl g2)), (p3, .inl (dy3, 4, .inl g3)), (p4, .inl (dy4, 4, .inl g4))]) [6, 0, 1, 2, 3, 4, 5] (by decide) rfl
  have hK9 := hK.sub (tys' := []) [] rfl
  refine W.widen (k := 0) (n := 0) (by decide) (by decide) ?_
  exact W.iret (v := 0) hx hb hr (fun t ht hW => ⟨⟨0, (), rfl, rfl, by rw [ht]; exact hP9, va_K.moved hW.alike hK9, hD9⟩, hS.F ht⟩) hS.2.2 dX2_read_65
theorem dX9_customs_0 : decode cX9_customs 0 = .ok (.iload_n 1, 1) := by decide +kernel
theorem dX9_customs_1 : decode cX9_customs 1 = .ok (.ifCond .lt 14, 3) := by decide +kernel
theorem dX9_customs_15 : decode cX9_customs 15 = .ok (.bipush (-2), 2) := by decide +kernel
theorem dX9_customs_17 : decode cX9_customs 17 = .ok (.ireturn, 1) := by decide +kernel
theorem dX9_customs_4 : decode cX9_customs 4 = .ok (.iload_n 1, 1) := by decide +kernel
theorem dX9_customs_5 : decode cX9_customs 5 = .ok (.aload_n 0, 1) := by decide +kernel
theorem dX9_customs_6 : decode cX9_customs 6 = .ok (.getfield 12, 3) := by decide +kernel
theorem dX9_customs_9 : decode cX9_customs 9 = .ok (.getfield 51, 3) := by decide +kernel
theorem dX9_customs_12 : decode cX9_customs 12 = .ok (.if_icmp .le 6, 3) := by decide +kernel
theorem dX9_customs_18 : decode cX9_customs 18 = .ok (.aload_n 0, 1) := by decide +kernel
theorem dX9_customs_19 : decode cX9_customs 19 = .ok (.getfield 19, 3) := by decide +kernel
theorem dX9_customs_22 : decode cX9_customs 22 = .ok (.aload_n 0, 1) := by decide +kernel
theorem dX9_customs_23 : decode cX9_customs 23 = .ok (.getfield 12, 3) := by decide +kernel
theorem kw_1_39 : Cond.fieldLink RX9 59 "IceFair$Tape" "bytes" "[I" ∈ gw := gw_t1 (List.mem_of_getElem? (i := 39) (by decide +kernel)) (by decide +kernel)
theorem dX9_customs_26 : decode cX9_customs 26 = .ok (.getfield 59, 3) := by decide +kernel
theorem dX9_customs_29 : decode cX9_customs 29 = .ok (.iload_n 1, 1) := by decide +kernel
theorem dX9_customs_30 : decode cX9_customs 30 = .ok (.aload_n 0, 1) := by decide +kernel
theorem dX9_customs_31 : decode cX9_customs 31 = .ok (.getfield 26, 3) := by decide +kernel
theorem kw_2_98 : Cond.methodLink RX9 63 yX2_read ∈ gw := gw_t2 (List.mem_of_getElem? (i := 98) (by decide +kernel)) (by decide +kernel)
theorem kw_2_99 : Cond.instanceMethod yX2_read ∈ gw := gw_t2 (List.mem_of_getElem? (i := 99) (by decide +kernel)) (by decide +kernel)
theorem kw_2_100 : Cond.selects RX2 yX2_read yX2_read ∈ gw := gw_t2 (List.mem_of_getElem? (i := 100) (by decide +kernel)) (by decide +kernel)
theorem kw_2_101 : Cond.code yX2_read cX2_read 5 (some .int) ∈ gw := gw_t2 (List.mem_of_getElem? (i := 101) (by decide +kernel)) (by decide +kernel)
theorem gk_X9_63 : GoodIn gw (wsV RX9 63 RX2 yX2_read (.code yX2_read cX2_read 5 (some .int) :: gw)) ∧ (yX2_read.cls = RX2 ∧ yX2_read.cls ≠ "java/lang/invoke/MethodHandle" ∧ yX2_read.cls ≠ "java/lang/invoke/VarHandle" ∧ (parseMethodDescriptor yX2_read.desc).map (fun d => d.parameters.length) = some 3) := ⟨gi_V kw_2_98 kw_2_99 kw_2_100 kw_1_3 kw_2_101, by decide +kernel⟩
theorem dX9_customs_34 : decode cX9_customs 34 = .ok (.invokevirtual 63, 3) := by decide +kernel
theorem dX9_customs_37 : decode cX9_customs 37 = .ok (.istore_n 2, 1) := by decide +kernel
theorem dX9_customs_38 : decode cX9_customs 38 = .ok (.aload_n 0, 1) := by decide +kernel
theorem dX9_customs_39 : decode cX9_customs 39 = .ok (.getfield 12, 3) := by decide +kernel
theorem dX9_customs_42 : decode cX9_customs 42 = .ok (.iconst 0, 1) := by decide +kernel
theorem dX9_customs_43 : decode cX9_customs 43 = .ok (.putfield 51, 3) := by decide +kernel
theorem dX9_customs_46 : decode cX9_customs 46 = .ok (.iload_n 2, 1) := by decide +kernel
theorem dX9_customs_47 : decode cX9_customs 47 = .ok (.iconst (-1), 1) := by decide +kernel
theorem dX9_customs_48 : decode cX9_customs 48 = .ok (.if_icmp .eq 17, 3) := by decide +kernel
theorem dX9_customs_51 : decode cX9_customs 51 = .ok (.aload_n 0, 1) := by decide +kernel
theorem dX9_customs_52 : decode cX9_customs 52 = .ok (.getfield 33, 3) := by decide +kernel
theorem kw_1_218 : Cond.fieldLink RX9 67 "IceFair$Fair" "customs" "LIceFair$Customs;" ∈ gw := gw_t1 (List.mem_of_getElem? (i := 218) (by decide +kernel)) (by decide +kernel)
theorem dX9_customs_55 : decode cX9_customs 55 = .ok (.getfield 67, 3) := by decide +kernel
theorem dX9_customs_58 : decode cX9_customs 58 = .ok (.aload_n 0, 1) := by decide +kernel
theorem dX9_customs_59 : decode cX9_customs 59 = .ok (.getfield 26, 3) := by decide +kernel
theorem kw_2_225 : Cond.methodLink RX9 70 yX1_copyFrom ∈ gw := gw_t2 (List.mem_of_getElem? (i := 225) (by decide +kernel)) (by decide +kernel)
theorem kw_2_226 : Cond.instanceMethod yX1_copyFrom ∈ gw := gw_t2 (List.mem_of_getElem? (i := 226) (by decide +kernel)) (by decide +kernel)
theorem kw_2_227 : Cond.selects RX1 yX1_copyFrom yX1_copyFrom ∈ gw := gw_t2 (List.mem_of_getElem? (i := 227) (by decide +kernel)) (by decide +kernel)
theorem kw_2_228 : Cond.code yX1_copyFrom cX1_copyFrom 2 none ∈ gw := gw_t2 (List.mem_of_getElem? (i := 228) (by decide +kernel)) (by decide +kernel)
theorem gk_X9_70 : GoodIn gw (wsV RX9 70 RX1 yX1_copyFrom (.code yX1_copyFrom cX1_copyFrom 2 none :: gw)) ∧ (yX1_copyFrom.cls = RX1 ∧ yX1_copyFrom.cls ≠ "java/lang/invoke/MethodHandle" ∧ yX1_copyFrom.cls ≠ "java/lang/invoke/VarHandle" ∧ (parseMethodDescriptor yX1_copyFrom.desc).map (fun d => d.parameters.length) = some 1) := ⟨gi_V kw_2_225 kw_2_226 kw_2_227 kw_1_4 kw_2_228, by decide +kernel⟩
theorem dX9_customs_62 : decode cX9_customs 62 = .ok (.invokevirtual 70, 3) := by decide +kernel
theorem dX9_customs_65 : decode cX9_customs 65 = .ok (.iload_n 2, 1) := by decide +kernel
theorem dX9_customs_66 : decode cX9_customs 66 = .ok (.ireturn, 1) := by decide +kernel
set_option maxHeartbeats 4000000 in
set_option maxRecDepth 100000 in
theorem c_customs (l : Launch) (D : va_G) (h0 : Nat) (us : Nat) (tp : Nat) (rd : Nat) (dr : Nat) (fa : Nat) (ly : Nat) (wy : Nat) (tp1 : Nat) (rd1 : Nat) (rd2 : Nat) (dr1 : Nat) (dr2 : Nat) (dr3 : Nat) (dr4 : Nat) (cu : Nat) (rv : Nat) (bt : Nat) (cu1 : Nat) (cu2 : Nat) (cu3 : Nat) (cu4 : Nat) (tc : ClassId) (ec1 : ClassId) (ec2 : ClassId) (ec3 : ClassId) (ec4 : ClassId) (cc1 : ClassId) (cc2 : ClassId) (cc3 : ClassId) (cc4 : ClassId) (n : Int32) : cI l yX9_customs (.code yX9_customs cX9_customs 3 (some .int)) ({ frames := 6, cells := 0, slots := 0, locals := 170 }) D [(tc, .int), (ec1, .int), (ec2, .int), (ec3, .int), (ec4, .int), (cc1, .int), (cc2, .int), (cc3, .int), (cc4, .int)] [(h0, .inr (8, [.ref tp, .ref rd, .ref dr, .ref fa, .ref ly, .ref wy])), (tp, .inr (6, [.ref tp1, .int 0])), (tp1, .inl (tc, 400, .inl (fun _ => 0))), (rd, .inr (2, [.int 0, .int ((-1)), .ref rd1, .ref rd2, .int 0, .int 0, .int 0, .int 0, .int 0])), (dr, .inr (1, [.ref dr1, .ref dr2, .ref dr3, .ref dr4, .int 0, .int 0])), (dr1, .inl (ec1, 8, .inl uF)), (dr2, .inl (ec2, 4, .inl (fun _ => 0))), (dr3, .inl (ec3, 4, .inl (fun _ => 0))), (dr4, .inl (ec4, 4, .inl (fun _ => 0))), (fa, .inr (3, [.ref cu, .ref rv, .ref bt, .int 0, .int 0, .int 0])), (cu, .inr (1, [.ref cu1, .ref cu2, .ref cu3, .ref cu4, .int 0, .int 0])), (cu1, .inl (cc1, 8, .inl uF)), (cu2, .inl (cc2, 4, .inl (fun _ => 0))), (cu3, .inl (cc3, 4, .inl (fun _ => 0))), (cu4, .inl (cc4, 4, .inl (fun _ => 0)))] (xU us) [.ref h0, .int n] (S := Unit) (fun r _ => r = (if n = 0 then 0 else (-2))) (fun _ => []) (fun _ => []) := by
  intro sz
  refine Met.ofW (cc := cX9_customs) (maxL := 3) (ret := (some .int)) (by decide) rfl ?_
  intro p e s m args below meth c s₁ B hml hv
  obtain ⟨rfl, hsz, hP, hK, hD0, hX⟩ := hv
  have hx := B.exec
  have hb := B.bytes
  have hr := B.returns
  have hts0 := atoms_spec (ws := .code yX9_customs cX9_customs 3 (some .int) :: gw) B.pre
  have hts := fun (w : Cond) (h : w ∈ gw) => hts0 w (List.mem_cons_of_mem _ h)
  have hown : s.vm.findClass RX9 = some m.cls := findClass_of_methodNamed B.named
  have hlocks := B.notSynchronized
  have F : mFix p s m _ c cX9_customs 3 RX9 := ⟨hx, hb, hml, hown, hts⟩
  subst hsz
  have hD := hD0.self (sz := s.heap.size)
  generalize hAe : va_A [(h0, .inr (8, [.ref tp, .ref rd, .ref dr, .ref fa, .ref ly, .ref wy])), (tp, .inr (6, [.ref tp1, .int 0])), (tp1, .inl (tc, 400, .inl (fun _ => 0))), (rd, .inr (2, [.int 0, .int ((-1)), .ref rd1, .ref rd2, .int 0, .int 0, .int 0, .int 0, .int 0])), (dr, .inr (1, [.ref dr1, .ref dr2, .ref dr3, .ref dr4, .int 0, .int 0])), (dr1, .inl (ec1, 8, .inl uF)), (dr2, .inl (ec2, 4, .inl (fun _ => 0))), (dr3, .inl (ec3, 4, .inl (fun _ => 0))), (dr4, .inl (ec4, 4, .inl (fun _ => 0))), (fa, .inr (3, [.ref cu, .ref rv, .ref bt, .int 0, .int 0, .int 0])), (cu, .inr (1, [.ref cu1, .ref cu2, .ref cu3, .ref cu4, .int 0, .int 0])), (cu1, .inl (cc1, 8, .inl uF)), (cu2, .inl (cc2, 4, .inl (fun _ => 0))), (cu3, .inl (cc3, 4, .inl (fun _ => 0))), (cu4, .inl (cc4, 4, .inl (fun _ => 0)))] s.heap.size = A at hD hX ⊢
  have hA : ∀ q : Nat, s.heap.size ≤ q → A q := fun q h => by rw [← hAe]; exact Or.inr h
  have hS : va_S A s.heap s.heap [] := va_S.rf
  have hl := lv_entry ([.ref h0, .int n]) (n := 3) (Nat.le_of_ble_eq_true rfl)
  rw [lg_entry_eq]
  generalize (lg_sl ([.ref h0, .int n]) ++ List.replicate (3 - (lg_sl ([.ref h0, .int n])).length) Slot.unset).toArray = ls at hl ⊢
  have hl : lv_has ls 3 [(0, .ref h0), (1, .int n)] := hl
  have hP : va_P D vwCl [(h0, .inr (8, [.ref tp, .ref rd, .ref dr, .ref fa, .ref ly, .ref wy])), (tp, .inr (6, [.ref tp1, .int 0])), (tp1, .inl (tc, 400, .inl (fun _ => 0))), (rd, .inr (2, [.int 0, .int ((-1)), .ref rd1, .ref rd2, .int 0, .int 0, .int 0, .int 0, .int 0])), (dr, .inr (1, [.ref dr1, .ref dr2, .ref dr3, .ref dr4, .int 0, .int 0])), (dr1, .inl (ec1, 8, .inl uF)), (dr2, .inl (ec2, 4, .inl (fun _ => 0))), (dr3, .inl (ec3, 4, .inl (fun _ => 0))), (dr4, .inl (ec4, 4, .inl (fun _ => 0))), (fa, .inr (3, [.ref cu, .ref rv, .ref bt, .int 0, .int 0, .int 0])), (cu, .inr (1, [.ref cu1, .ref cu2, .ref cu3, .ref cu4, .int 0, .int 0])), (cu1, .inl (cc1, 8, .inl uF)), (cu2, .inl (cc2, 4, .inl (fun _ => 0))), (cu3, .inl (cc3, 4, .inl (fun _ => 0))), (cu4, .inl (cc4, 4, .inl (fun _ => 0)))] s.heap := hP
  refine lv_iload_n hx hb dX9_customs_0 rfl (lv_at hl 1 rfl) ?_
  refine lv_if_lt (tgt := 15) hx hb dX9_customs_1 (by decide) (fun c_1 => ?_) (fun c_1 => ?_)
  · skip
    refine lv_bipush (v := -2) hx hb dX9_customs_15 (by decide) ?_
    have hP9 := hP.sub (ws' := []) [] rfl
    have hD9 := hD.sub (ws' := []) [] (by decide) rfl
    have hK9 := hK.sub (tys' := []) [] rfl
    refine W.widen (k := 0) (n := 0) (by decide) (by decide) ?_
    exact W.iret (v := (-2)) hx hb hr (fun t ht hW => ⟨⟨((-2)), (), rfl, by rw [if_neg (fun h => by rw [h] at c_1; exact absurd c_1 (by decide))], by rw [ht]; exact hP9, va_K.moved hW.alike hK9, hD9⟩, hS.F ht⟩) hS.2.2 dX9_customs_17
  · skip
    refine lv_iload_n hx hb dX9_customs_4 rfl (lv_at hl 1 rfl) ?_
    refine lv_aload_n hx hb dX9_customs_5 rfl (lv_at hl 0 rfl) ?_
    refine va_get (D := D) (ci := 8) (v := .ref tp) (C := RX9) (T := TX9) (N := 6) hx hb hts inG_X9 hown hK hP 0 rfl rfl 0 (by decide) (hts _ kw_2_67) (fun _ h9 => h9) rfl dX9_customs_6 ?_
    refine va_get (D := D) (ci := 6) (v := .int 0) (C := RX7) (T := TX7) (N := 2) hx hb hts inG_X7 hown hK hP 1 rfl rfl 1 (by decide) (hts _ kw_1_41) (fun _ h9 => h9) rfl dX9_customs_9 ?_
    refine lv_icmp_le (tgt := 18) hx hb dX9_customs_12 (by decide) (fun c_2 => ?_) (fun c_2 => ?_)
    · skip
      have c_2 := Int32.not_lt.mpr c_2
      obtain rfl : n = 0 := Int32.le_antisymm (Int32.not_lt.mp c_2) (Int32.not_lt.mp c_1)
      have hl : lv_has ls 3 [(0, .ref h0), (1, .int 0)] := hl
      refine lv_aload_n hx hb dX9_customs_18 rfl (lv_at hl 0 rfl) ?_
      refine va_get (D := D) (ci := 8) (v := .ref rd) (C := RX9) (T := TX9) (N := 6) hx hb hts inG_X9 hown hK hP 0 rfl rfl 1 (by decide) (hts _ kw_2_68) (fun _ h9 => h9) rfl dX9_customs_19 ?_
      refine lv_aload_n hx hb dX9_customs_22 rfl (lv_at hl 0 rfl) ?_
      refine va_get (D := D) (ci := 8) (v := .ref tp) (C := RX9) (T := TX9) (N := 6) hx hb hts inG_X9 hown hK hP 0 rfl rfl 0 (by decide) (hts _ kw_2_67) (fun _ h9 => h9) rfl dX9_customs_23 ?_
      refine va_get (D := D) (ci := 6) (v := .ref tp1) (C := RX7) (T := TX7) (N := 2) hx hb hts inG_X7 hown hK hP 1 rfl rfl 0 (by decide) (hts _ kw_1_39) (fun _ h9 => h9) rfl dX9_customs_26 ?_
      refine lv_iload_n hx hb dX9_customs_29 rfl (lv_at hl 1 rfl) ?_
      refine lv_aload_n hx hb dX9_customs_30 rfl (lv_at hl 0 rfl) ?_
      refine va_get (D := D) (ci := 8) (v := .ref dr) (C := RX9) (T := TX9) (N := 6) hx hb hts inG_X9 hown hK hP 0 rfl rfl 2 (by decide) (hts _ kw_2_69) (fun _ h9 => h9) rfl dX9_customs_31 ?_
      refine mc_Vi (rest := []) (wr := [(h0, .inr (8, [.ref tp, .ref rd, .ref dr, .ref fa, .ref ly, .ref wy])), (tp, .inr (6, [.ref tp1, .int 0])), (fa, .inr (3, [.ref cu, .ref rv, .ref bt, .int 0, .int 0, .int 0])), (cu, .inr (1, [.ref cu1, .ref cu2, .ref cu3, .ref cu4, .int 0, .int 0])), (cu1, .inl (cc1, 8, .inl uF)), (cu2, .inl (cc2, 4, .inl (fun _ => 0))), (cu3, .inl (cc3, 4, .inl (fun _ => 0))), (cu4, .inl (cc4, 4, .inl (fun _ => 0)))]) F hK hP hD hS hA (c_read0 l D us rd rd1 rd2 tp1 dr dr1 dr2 dr3 dr4 tc ec1 ec2 ec3 ec4 (fun _ => 0) uF (fun _ => 0) (fun _ => 0) (fun _ => 0) 0 0 ) ⟨gk_X9_63.1, gk_X9_63.2, Nat.le_of_ble_eq_true rfl, Nat.le_of_ble_eq_true rfl⟩ [3, 2, 4, 5, 6, 7, 8] [0, 1, 9, 10, 11, 12, 13, 14] [0, 1, 2, 3, 4] ⟨rfl, rfl, rfl, rfl, by decide⟩ rfl (xU_move us) (xU_use hX hS (va_free hD hS hA [3, 2, 4, 5, 6, 7, 8] rfl)) 3 rfl rfl rfl hl.1 rfl (Nat.le_of_ble_eq_true rfl) dX9_customs_34 ⟨Nat.le_of_ble_eq_true rfl, Nat.le_of_ble_eq_true rfl⟩ (fun r_3 _ H locs hw hK1 hP hD hS => ?_)
      have hP : va_P D vwCl [(h0, .inr (8, [.ref tp, .ref rd, .ref dr, .ref fa, .ref ly, .ref wy])), (tp, .inr (6, [.ref tp1, .int 0])), (fa, .inr (3, [.ref cu, .ref rv, .ref bt, .int 0, .int 0, .int 0])), (cu, .inr (1, [.ref cu1, .ref cu2, .ref cu3, .ref cu4, .int 0, .int 0])), (cu1, .inl (cc1, 8, .inl uF)), (cu2, .inl (cc2, 4, .inl (fun _ => 0))), (cu3, .inl (cc3, 4, .inl (fun _ => 0))), (cu4, .inl (cc4, 4, .inl (fun _ => 0))), (rd, .inr (2, [.int 0, .int ((-1)), .ref rd1, .ref tp1, .int 0, .int 0, .int 0, .int 0, .int 0])), (tp1, .inl (tc, 400, .inl ((fun _ => 0)))), (dr, .inr (1, [.ref dr1, .ref dr2, .ref dr3, .ref dr4, .int 0, .int 0])), (dr1, .inl (ec1, 8, .inl uF)), (dr2, .inl (ec2, 4, .inl ((fun _ => 0)))), (dr3, .inl (ec3, 4, .inl ((fun _ => 0)))), (dr4, .inl (ec4, 4, .inl ((fun _ => 0))))] H := hP
      have hD : va_D A [(h0, .inr (8, [.ref tp, .ref rd, .ref dr, .ref fa, .ref ly, .ref wy])), (tp, .inr (6, [.ref tp1, .int 0])), (fa, .inr (3, [.ref cu, .ref rv, .ref bt, .int 0, .int 0, .int 0])), (cu, .inr (1, [.ref cu1, .ref cu2, .ref cu3, .ref cu4, .int 0, .int 0])), (cu1, .inl (cc1, 8, .inl uF)), (cu2, .inl (cc2, 4, .inl (fun _ => 0))), (cu3, .inl (cc3, 4, .inl (fun _ => 0))), (cu4, .inl (cc4, 4, .inl (fun _ => 0))), (rd, .inr (2, [.int 0, .int ((-1)), .ref rd1, .ref tp1, .int 0, .int 0, .int 0, .int 0, .int 0])), (tp1, .inl (tc, 400, .inl ((fun _ => 0)))), (dr, .inr (1, [.ref dr1, .ref dr2, .ref dr3, .ref dr4, .int 0, .int 0])), (dr1, .inl (ec1, 8, .inl uF)), (dr2, .inl (ec2, 4, .inl ((fun _ => 0)))), (dr3, .inl (ec3, 4, .inl ((fun _ => 0)))), (dr4, .inl (ec4, 4, .inl ((fun _ => 0))))] := hD
      have hw_4 : r_3 = 0 := hw
      obtain rfl : r_3 = 0 := hw_4
      refine lv_istore_n (lv' := [(2, .int 0), (0, .ref h0), (1, .int 0)]) hx hb dX9_customs_37 rfl hl (by decide) rfl (fun ls hl => ?_)
      refine lv_aload_n hx hb dX9_customs_38 rfl (lv_at hl 1 rfl) ?_
      refine va_get (D := D) (ci := 8) (v := .ref tp) (C := RX9) (T := TX9) (N := 6) hx hb hts inG_X9 hown hK hP 0 rfl rfl 0 (by decide) (hts _ kw_2_67) (fun _ h9 => h9) rfl dX9_customs_39 ?_
      refine lv_iconst (v := 0) hx hb dX9_customs_42 (by decide) ?_
      refine va_put (D := D) (ci := 6) (v := .int 0) (ty := .int) (C := RX7) (T := TX7) (N := 2) hx hb hts inG_X7 tyX7 tyX7_ok nmX7 hown hK hP hD hS 1 rfl rfl 1 (by decide) (hts _ kw_1_41) (fun _ h9 => h9) rfl (by decide +kernel) rfl rfl (Nat.le_of_ble_eq_true rfl) dX9_customs_43 (fun H locs hP hD hS => ?_)
      have hP : va_P D vwCl [(h0, .inr (8, [.ref tp, .ref rd, .ref dr, .ref fa, .ref ly, .ref wy])), (tp, .inr (6, [.ref tp1, .int 0])), (fa, .inr (3, [.ref cu, .ref rv, .ref bt, .int 0, .int 0, .int 0])), (cu, .inr (1, [.ref cu1, .ref cu2, .ref cu3, .ref cu4, .int 0, .int 0])), (cu1, .inl (cc1, 8, .inl uF)), (cu2, .inl (cc2, 4, .inl (fun _ => 0))), (cu3, .inl (cc3, 4, .inl (fun _ => 0))), (cu4, .inl (cc4, 4, .inl (fun _ => 0))), (rd, .inr (2, [.int 0, .int ((-1)), .ref rd1, .ref tp1, .int 0, .int 0, .int 0, .int 0, .int 0])), (tp1, .inl (tc, 400, .inl ((fun _ => 0)))), (dr, .inr (1, [.ref dr1, .ref dr2, .ref dr3, .ref dr4, .int 0, .int 0])), (dr1, .inl (ec1, 8, .inl uF)), (dr2, .inl (ec2, 4, .inl ((fun _ => 0)))), (dr3, .inl (ec3, 4, .inl ((fun _ => 0)))), (dr4, .inl (ec4, 4, .inl ((fun _ => 0))))] H := hP
      have hD : va_D A [(h0, .inr (8, [.ref tp, .ref rd, .ref dr, .ref fa, .ref ly, .ref wy])), (tp, .inr (6, [.ref tp1, .int 0])), (fa, .inr (3, [.ref cu, .ref rv, .ref bt, .int 0, .int 0, .int 0])), (cu, .inr (1, [.ref cu1, .ref cu2, .ref cu3, .ref cu4, .int 0, .int 0])), (cu1, .inl (cc1, 8, .inl uF)), (cu2, .inl (cc2, 4, .inl (fun _ => 0))), (cu3, .inl (cc3, 4, .inl (fun _ => 0))), (cu4, .inl (cc4, 4, .inl (fun _ => 0))), (rd, .inr (2, [.int 0, .int ((-1)), .ref rd1, .ref tp1, .int 0, .int 0, .int 0, .int 0, .int 0])), (tp1, .inl (tc, 400, .inl ((fun _ => 0)))), (dr, .inr (1, [.ref dr1, .ref dr2, .ref dr3, .ref dr4, .int 0, .int 0])), (dr1, .inl (ec1, 8, .inl uF)), (dr2, .inl (ec2, 4, .inl ((fun _ => 0)))), (dr3, .inl (ec3, 4, .inl ((fun _ => 0)))), (dr4, .inl (ec4, 4, .inl ((fun _ => 0))))] := hD
      refine lv_iload_n hx hb dX9_customs_46 rfl (lv_at hl 0 rfl) ?_
      refine lv_iconst (v := -1) hx hb dX9_customs_47 (by decide) ?_
      refine lv_icmp_eq (tgt := 65) hx hb dX9_customs_48 (by decide) (fun c_5 => absurd c_5 (by decide)) (fun c_5 => ?_)
      refine lv_aload_n hx hb dX9_customs_51 rfl (lv_at hl 1 rfl) ?_
      refine va_get (D := D) (ci := 8) (v := .ref fa) (C := RX9) (T := TX9) (N := 6) hx hb hts inG_X9 hown hK hP 0 rfl rfl 3 (by decide) (hts _ kw_2_70) (fun _ h9 => h9) rfl dX9_customs_52 ?_
      refine va_get (D := D) (ci := 3) (v := .ref cu) (C := RX3) (T := TX3) (N := 6) hx hb hts inG_X3 hown hK hP 2 rfl rfl 0 (by decide) (hts _ kw_1_218) (fun _ h9 => h9) rfl dX9_customs_55 ?_
      refine lv_aload_n hx hb dX9_customs_58 rfl (lv_at hl 1 rfl) ?_
      refine va_get (D := D) (ci := 8) (v := .ref dr) (C := RX9) (T := TX9) (N := 6) hx hb hts inG_X9 hown hK hP 0 rfl rfl 2 (by decide) (hts _ kw_2_69) (fun _ h9 => h9) rfl dX9_customs_59 ?_
      refine mc_Vv (rest := []) (wr := [(h0, .inr (8, [.ref tp, .ref rd, .ref dr, .ref fa, .ref ly, .ref wy])), (tp, .inr (6, [.ref tp1, .int 0])), (fa, .inr (3, [.ref cu, .ref rv, .ref bt, .int 0, .int 0, .int 0])), (rd, .inr (2, [.int 0, .int ((-1)), .ref rd1, .ref tp1, .int 0, .int 0, .int 0, .int 0, .int 0])), (tp1, .inl (tc, 400, .inl ((fun _ => 0))))]) F hK hP hD hS hA (c_copyFrom l D us cu cu1 cu2 cu3 cu4 cc1 cc2 cc3 cc4 uF (fun _ => 0) (fun _ => 0) (fun _ => 0) 0 0 dr dr1 dr2 dr3 dr4 ec1 ec2 ec3 ec4 uF ((fun _ => 0)) ((fun _ => 0)) ((fun _ => 0)) 0 0 ) ⟨gk_X9_70.1, gk_X9_70.2, Nat.le_of_ble_eq_true rfl, Nat.le_of_ble_eq_true rfl⟩ [3, 4, 5, 6, 7, 10, 11, 12, 13, 14] [0, 1, 2, 8, 9] [5, 6, 7, 8, 1, 2, 3, 4] ⟨rfl, rfl, rfl, rfl, by decide⟩ rfl (xU_move us) (xU_use hX hS (va_free hD hS hA [3, 4, 5, 6, 7, 10, 11, 12, 13, 14] rfl)) 3 rfl rfl rfl hl.1 rfl (Nat.le_of_ble_eq_true rfl) dX9_customs_62 ⟨Nat.le_of_ble_eq_true rfl, Nat.le_of_ble_eq_true rfl⟩ (fun _ H locs hw hK1 hP hD hS => ?_)
      have hP : va_P D vwCl [(h0, .inr (8, [.ref tp, .ref rd, .ref dr, .ref fa, .ref ly, .ref wy])), (tp, .inr (6, [.ref tp1, .int 0])), (fa, .inr (3, [.ref cu, .ref rv, .ref bt, .int 0, .int 0, .int 0])), (rd, .inr (2, [.int 0, .int ((-1)), .ref rd1, .ref tp1, .int 0, .int 0, .int 0, .int 0, .int 0])), (tp1, .inl (tc, 400, .inl ((fun _ => 0)))), (cu, .inr (1, [.ref cu1, .ref cu2, .ref cu3, .ref cu4, .int 0, .int 0])), (cu1, .inl (cc1, 8, .inl uF)), (cu2, .inl (cc2, 4, .inl (((fun _ => 0))))), (cu3, .inl (cc3, 4, .inl (((fun _ => 0))))), (cu4, .inl (cc4, 4, .inl (((fun _ => 0))))), (dr, .inr (1, [.ref dr1, .ref dr2, .ref dr3, .ref dr4, .int 0, .int 0])), (dr1, .inl (ec1, 8, .inl uF)), (dr2, .inl (ec2, 4, .inl (((fun _ => 0))))), (dr3, .inl (ec3, 4, .inl (((fun _ => 0))))), (dr4, .inl (ec4, 4, .inl (((fun _ => 0)))))] H := hP
      have hD : va_D A [(h0, .inr (8, [.ref tp, .ref rd, .ref dr, .ref fa, .ref ly, .ref wy])), (tp, .inr (6, [.ref tp1, .int 0])), (fa, .inr (3, [.ref cu, .ref rv, .ref bt, .int 0, .int 0, .int 0])), (rd, .inr (2, [.int 0, .int ((-1)), .ref rd1, .ref tp1, .int 0, .int 0, .int 0, .int 0, .int 0])), (tp1, .inl (tc, 400, .inl ((fun _ => 0)))), (cu, .inr (1, [.ref cu1, .ref cu2, .ref cu3, .ref cu4, .int 0, .int 0])), (cu1, .inl (cc1, 8, .inl uF)), (cu2, .inl (cc2, 4, .inl (((fun _ => 0))))), (cu3, .inl (cc3, 4, .inl (((fun _ => 0))))), (cu4, .inl (cc4, 4, .inl (((fun _ => 0))))), (dr, .inr (1, [.ref dr1, .ref dr2, .ref dr3, .ref dr4, .int 0, .int 0])), (dr1, .inl (ec1, 8, .inl uF)), (dr2, .inl (ec2, 4, .inl (((fun _ => 0))))), (dr3, .inl (ec3, 4, .inl (((fun _ => 0))))), (dr4, .inl (ec4, 4, .inl (((fun _ => 0)))))] := hD
      refine lv_iload_n hx hb dX9_customs_65 rfl (lv_at hl 0 rfl) ?_
      have hP9 := hP.sub (ws' := []) [] rfl
      have hD9 := hD.sub (ws' := []) [] (by decide) rfl
      have hK9 := hK.sub (tys' := []) [] rfl
      refine W.widen (k := 0) (n := 0) (by decide) (by decide) ?_
      exact W.iret (v := 0) hx hb hr (fun t ht hW => ⟨⟨0, (), rfl, rfl, by rw [ht]; exact hP9, va_K.moved hW.alike hK9, hD9⟩, hS.F ht⟩) hS.2.2 dX9_customs_66
    · skip
      have c_2 := Int32.not_le.mp c_2
      refine lv_bipush (v := -2) hx hb dX9_customs_15 (by decide) ?_
      have hP9 := hP.sub (ws' := []) [] rfl
      have hD9 := hD.sub (ws' := []) [] (by decide) rfl
      have hK9 := hK.sub (tys' := []) [] rfl
      refine W.widen (k := 0) (n := 0) (by decide) (by decide) ?_
      exact W.iret (v := (-2)) hx hb hr (fun t ht hW => ⟨⟨((-2)), (), rfl, by rw [if_neg (fun h => by rw [h] at c_2; exact absurd c_2 (by decide))], by rw [ht]; exact hP9, va_K.moved hW.alike hK9, hD9⟩, hS.F ht⟩) hS.2.2 dX9_customs_17
theorem dX8_measure_0 : decode cX8_measure 0 = .ok (.aload_n 0, 1) := by decide +kernel
theorem dX8_measure_1 : decode cX8_measure 1 = .ok (.iconst 0, 1) := by decide +kernel
theorem kw_2_53 : Cond.fieldLink RX8 74 "IceFair$WayOff" "crowded" "I" ∈ gw := gw_t2 (List.mem_of_getElem? (i := 53) (by decide +kernel)) (by decide +kernel)
theorem dX8_measure_2 : decode cX8_measure 2 = .ok (.putfield 74, 3) := by decide +kernel
theorem dX8_measure_5 : decode cX8_measure 5 = .ok (.iconst 0, 1) := by decide +kernel
theorem dX8_measure_6 : decode cX8_measure 6 = .ok (.istore_n 2, 1) := by decide +kernel
theorem dX8_measure_7 : decode cX8_measure 7 = .ok (.iload_n 2, 1) := by decide +kernel
theorem dX8_measure_8 : decode cX8_measure 8 = .ok (.aload_n 1, 1) := by decide +kernel
theorem kw_1_228 : Cond.fieldLink RX8 71 "IceFair$Fair" "boothCount" "I" ∈ gw := gw_t1 (List.mem_of_getElem? (i := 228) (by decide +kernel)) (by decide +kernel)
theorem dX8_measure_9 : decode cX8_measure 9 = .ok (.getfield 71, 3) := by decide +kernel
theorem dX8_measure_12 : decode cX8_measure 12 = .ok (.if_icmp .ge 52, 3) := by decide +kernel
theorem dX8_measure_64 : decode cX8_measure 64 = .ok (.iconst 0, 1) := by decide +kernel
theorem dX8_measure_65 : decode cX8_measure 65 = .ok (.istore_n 2, 1) := by decide +kernel
theorem dX8_measure_66 : decode cX8_measure 66 = .ok (.iload_n 2, 1) := by decide +kernel
theorem dX8_measure_67 : decode cX8_measure 67 = .ok (.aload_n 1, 1) := by decide +kernel
theorem kw_1_216 : Cond.fieldLink RX8 30 "IceFair$Fair" "customs" "LIceFair$Customs;" ∈ gw := gw_t1 (List.mem_of_getElem? (i := 216) (by decide +kernel)) (by decide +kernel)
theorem dX8_measure_68 : decode cX8_measure 68 = .ok (.getfield 30, 3) := by decide +kernel
theorem kw_1_107 : Cond.fieldLink RX8 36 "IceFair$Customs" "stairCount" "I" ∈ gw := gw_t1 (List.mem_of_getElem? (i := 107) (by decide +kernel)) (by decide +kernel)
theorem dX8_measure_71 : decode cX8_measure 71 = .ok (.getfield 36, 3) := by decide +kernel
theorem dX8_measure_74 : decode cX8_measure 74 = .ok (.if_icmp .ge 78, 3) := by decide +kernel
theorem dX8_measure_152 : decode cX8_measure 152 = .ok (.return_, 1) := by decide +kernel
set_option maxHeartbeats 4000000 in
set_option maxRecDepth 100000 in
theorem c_measure0 (l : Launch) (D : va_G) (h0 : Nat) (fa : Nat) (cu : Nat) (rv : Nat) (bt : Nat) (q1 : Nat) (q2 : Nat) (q3 : Nat) (q4 : Nat) (cu1 : Nat) (cu2 : Nat) (cu3 : Nat) (cu4 : Nat) (qd : Int32) (cr : Int32) (ho : Int32) (fe : Int32) : cV l yX8_measure (.code yX8_measure cX8_measure 5 none) ({ frames := 4, cells := 0, slots := 0, locals := 105 }) D [] [(h0, .inr (7, [.ref q1, .ref q2, .int qd, .ref q3, .ref q4, .int cr])), (fa, .inr (3, [.ref cu, .ref rv, .ref bt, .int 0, .int ho, .int fe])), (cu, .inr (1, [.ref cu1, .ref cu2, .ref cu3, .ref cu4, .int 0, .int 0]))] xT [.ref h0, .ref fa] (S := Unit) (fun _ => True) (fun _ => []) (fun _ => [(h0, .inr (7, [.ref q1, .ref q2, .int qd, .ref q3, .ref q4, .int 0])), (fa, .inr (3, [.ref cu, .ref rv, .ref bt, .int 0, .int ho, .int fe])), (cu, .inr (1, [.ref cu1, .ref cu2, .ref cu3, .ref cu4, .int 0, .int 0]))]) := by
  intro sz
  refine Met.ofW (cc := cX8_measure) (maxL := 5) (ret := none) (by decide) rfl ?_
  intro p e s m args below meth c s₁ B hml hv
  obtain ⟨rfl, hsz, hP, hK, hD0, hX⟩ := hv
  have hx := B.exec
  have hb := B.bytes
  have hr := B.returns
  have hts0 := atoms_spec (ws := .code yX8_measure cX8_measure 5 none :: gw) B.pre
  have hts := fun (w : Cond) (h : w ∈ gw) => hts0 w (List.mem_cons_of_mem _ h)
  have hown : s.vm.findClass RX8 = some m.cls := findClass_of_methodNamed B.named
  have hlocks := B.notSynchronized
  have F : mFix p s m _ c cX8_measure 5 RX8 := ⟨hx, hb, hml, hown, hts⟩
  subst hsz
  have hD := hD0.self (sz := s.heap.size)
  generalize hAe : va_A [(h0, .inr (7, [.ref q1, .ref q2, .int qd, .ref q3, .ref q4, .int cr])), (fa, .inr (3, [.ref cu, .ref rv, .ref bt, .int 0, .int ho, .int fe])), (cu, .inr (1, [.ref cu1, .ref cu2, .ref cu3, .ref cu4, .int 0, .int 0]))] s.heap.size = A at hD hX ⊢
  have hA : ∀ q : Nat, s.heap.size ≤ q → A q := fun q h => by rw [← hAe]; exact Or.inr h
  have hS : va_S A s.heap s.heap [] := va_S.rf
  have hl := lv_entry ([.ref h0, .ref fa]) (n := 5) (Nat.le_of_ble_eq_true rfl)
  rw [lg_entry_eq]
  generalize (lg_sl ([.ref h0, .ref fa]) ++ List.replicate (5 - (lg_sl ([.ref h0, .ref fa])).length) Slot.unset).toArray = ls at hl ⊢
  have hl : lv_has ls 5 [(0, .ref h0), (1, .ref fa)] := hl
  have hP : va_P D vwCl [(h0, .inr (7, [.ref q1, .ref q2, .int qd, .ref q3, .ref q4, .int cr])), (fa, .inr (3, [.ref cu, .ref rv, .ref bt, .int 0, .int ho, .int fe])), (cu, .inr (1, [.ref cu1, .ref cu2, .ref cu3, .ref cu4, .int 0, .int 0]))] s.heap := hP
  refine lv_aload_n hx hb dX8_measure_0 rfl (lv_at hl 0 rfl) ?_
  refine lv_iconst (v := 0) hx hb dX8_measure_1 (by decide) ?_
  refine va_put (D := D) (ci := 7) (v := .int 0) (ty := .int) (C := RX8) (T := TX8) (N := 6) hx hb hts inG_X8 tyX8 tyX8_ok nmX8 hown hK hP hD hS 0 rfl rfl 5 (by decide) (hts _ kw_2_53) (fun _ h9 => h9) rfl (by decide +kernel) rfl rfl (Nat.le_of_ble_eq_true rfl) dX8_measure_2 (fun H locs hP hD hS => ?_)
  have hP : va_P D vwCl [(h0, .inr (7, [.ref q1, .ref q2, .int qd, .ref q3, .ref q4, .int 0])), (fa, .inr (3, [.ref cu, .ref rv, .ref bt, .int 0, .int ho, .int fe])), (cu, .inr (1, [.ref cu1, .ref cu2, .ref cu3, .ref cu4, .int 0, .int 0]))] H := hP
  have hD : va_D A [(h0, .inr (7, [.ref q1, .ref q2, .int qd, .ref q3, .ref q4, .int 0])), (fa, .inr (3, [.ref cu, .ref rv, .ref bt, .int 0, .int ho, .int fe])), (cu, .inr (1, [.ref cu1, .ref cu2, .ref cu3, .ref cu4, .int 0, .int 0]))] := hD
  refine lv_iconst (v := 0) hx hb dX8_measure_5 (by decide) ?_
  refine lv_istore_n (lv' := [(2, .int 0), (0, .ref h0), (1, .ref fa)]) hx hb dX8_measure_6 rfl hl (by decide) rfl (fun ls hl => ?_)
  refine lv_iload_n hx hb dX8_measure_7 rfl (lv_at hl 0 rfl) ?_
  refine lv_aload_n hx hb dX8_measure_8 rfl (lv_at hl 2 rfl) ?_
  refine va_get (D := D) (ci := 3) (v := .int 0) (C := RX3) (T := TX3) (N := 6) hx hb hts inG_X3 hown hK hP 1 rfl rfl 3 (by decide) (hts _ kw_1_228) (fun _ h9 => h9) rfl dX8_measure_9 ?_
  refine lv_icmp_ge (tgt := 64) hx hb dX8_measure_12 (by decide) (fun c_1 => ?_) (fun c_1 => absurd c_1 (by decide))
  refine lv_iconst (v := 0) hx hb dX8_measure_64 (by decide) ?_
  refine lv_istore_n (lv' := [(2, .int 0), (0, .ref h0), (1, .ref fa)]) hx hb dX8_measure_65 rfl hl (by decide) rfl (fun ls hl => ?_)
  refine lv_iload_n hx hb dX8_measure_66 rfl (lv_at hl 0 rfl) ?_
  refine lv_aload_n hx hb dX8_measure_67 rfl (lv_at hl 2 rfl) ?_
  refine va_get (D := D) (ci := 3) (v := .ref cu) (C := RX3) (T := TX3) (N := 6) hx hb hts inG_X3 hown hK hP 1 rfl rfl 0 (by decide) (hts _ kw_1_216) (fun _ h9 => h9) rfl dX8_measure_68 ?_
  refine va_get (D := D) (ci := 1) (v := .int 0) (C := RX1) (T := TX1) (N := 6) hx hb hts inG_X1 hown hK hP 2 rfl rfl 4 (by decide) (hts _ kw_1_107) (fun _ h9 => h9) rfl dX8_measure_71 ?_
  refine lv_icmp_ge (tgt := 152) hx hb dX8_measure_74 (by decide) (fun c_2 => ?_) (fun c_2 => absurd c_2 (by decide))
  have hP9 := hP.sub (ws' := [(h0, .inr (7, [.ref q1, .ref q2, .int qd, .ref q3, .ref q4, .int 0])), (fa, .inr (3, [.ref cu, .ref rv, .ref bt, .int 0, .int ho, .int fe])), (cu, .inr (1, [.ref cu1, .ref cu2, .ref cu3, .ref cu4, .int 0, .int 0]))]) [0, 1, 2] rfl
  have hD9 := hD.sub (ws' := [(h0, .inr (7, [.ref q1, .ref q2, .int qd, .ref q3, .ref q4, .int 0])), (fa, .inr (3, [.ref cu, .ref rv, .ref bt, .int 0, .int ho, .int fe])), (cu, .inr (1, [.ref cu1, .ref cu2, .ref cu3, .ref cu4, .int 0, .int 0]))]) [0, 1, 2] (by decide) rfl
  have hK9 := hK.sub (tys' := []) [] rfl
  refine W.widen (k := 0) (n := 0) (by decide) (by decide) ?_
  exact W.vret hx hb hr (fun t ht hW => ⟨⟨(), rfl, trivial, by rw [ht]; exact hP9, va_K.moved hW.alike hK9, hD9⟩, hS.F ht⟩) hS.2.2 dX8_measure_152
theorem dX8_hasSomebodyStuck_0 : decode cX8_hasSomebodyStuck 0 = .ok (.iconst 0, 1) := by decide +kernel
theorem dX8_hasSomebodyStuck_1 : decode cX8_hasSomebodyStuck 1 = .ok (.istore_n 2, 1) := by decide +kernel
theorem dX8_hasSomebodyStuck_2 : decode cX8_hasSomebodyStuck 2 = .ok (.iload_n 2, 1) := by decide +kernel
theorem dX8_hasSomebodyStuck_3 : decode cX8_hasSomebodyStuck 3 = .ok (.aload_n 1, 1) := by decide +kernel
theorem dX8_hasSomebodyStuck_4 : decode cX8_hasSomebodyStuck 4 = .ok (.getfield 71, 3) := by decide +kernel
theorem dX8_hasSomebodyStuck_7 : decode cX8_hasSomebodyStuck 7 = .ok (.if_icmp .ge 38, 3) := by decide +kernel
theorem dX8_hasSomebodyStuck_45 : decode cX8_hasSomebodyStuck 45 = .ok (.iconst 0, 1) := by decide +kernel
theorem dX8_hasSomebodyStuck_46 : decode cX8_hasSomebodyStuck 46 = .ok (.ireturn, 1) := by decide +kernel
set_option maxHeartbeats 4000000 in
set_option maxRecDepth 100000 in
theorem c_stuck0 (l : Launch) (D : va_G) (h0 : Nat) (fa : Nat) (cu : Nat) (rv : Nat) (bt : Nat) (q1 : Nat) (q2 : Nat) (q3 : Nat) (q4 : Nat) (qd : Int32) (ho : Int32) (fe : Int32) : cI l yX8_hasSomebodyStuck (.code yX8_hasSomebodyStuck cX8_hasSomebodyStuck 3 (some .boolean)) ({ frames := 1, cells := 0, slots := 0, locals := 23 }) D [] [(h0, .inr (7, [.ref q1, .ref q2, .int qd, .ref q3, .ref q4, .int 0])), (fa, .inr (3, [.ref cu, .ref rv, .ref bt, .int 0, .int ho, .int fe]))] xT [.ref h0, .ref fa] (S := Unit) (fun r _ => r = 0) (fun _ => []) (fun _ => [(h0, .inr (7, [.ref q1, .ref q2, .int qd, .ref q3, .ref q4, .int 0])), (fa, .inr (3, [.ref cu, .ref rv, .ref bt, .int 0, .int ho, .int fe]))]) := by
  intro sz
  refine Met.ofW (cc := cX8_hasSomebodyStuck) (maxL := 3) (ret := (some .boolean)) (by decide) rfl ?_
  intro p e s m args below meth c s₁ B hml hv
  obtain ⟨rfl, hsz, hP, hK, hD0, hX⟩ := hv
  have hx := B.exec
  have hb := B.bytes
  have hr := B.returns
  have hts0 := atoms_spec (ws := .code yX8_hasSomebodyStuck cX8_hasSomebodyStuck 3 (some .boolean) :: gw) B.pre
  have hts := fun (w : Cond) (h : w ∈ gw) => hts0 w (List.mem_cons_of_mem _ h)
  have hown : s.vm.findClass RX8 = some m.cls := findClass_of_methodNamed B.named
  have hlocks := B.notSynchronized
  have F : mFix p s m _ c cX8_hasSomebodyStuck 3 RX8 := ⟨hx, hb, hml, hown, hts⟩
  subst hsz
  have hD := hD0.self (sz := s.heap.size)
  generalize hAe : va_A [(h0, .inr (7, [.ref q1, .ref q2, .int qd, .ref q3, .ref q4, .int 0])), (fa, .inr (3, [.ref cu, .ref rv, .ref bt, .int 0, .int ho, .int fe]))] s.heap.size = A at hD hX ⊢
  have hA : ∀ q : Nat, s.heap.size ≤ q → A q := fun q h => by rw [← hAe]; exact Or.inr h
  have hS : va_S A s.heap s.heap [] := va_S.rf
  have hl := lv_entry ([.ref h0, .ref fa]) (n := 3) (Nat.le_of_ble_eq_true rfl)
  rw [lg_entry_eq]
  generalize (lg_sl ([.ref h0, .ref fa]) ++ List.replicate (3 - (lg_sl ([.ref h0, .ref fa])).length) Slot.unset).toArray = ls at hl ⊢
  have hl : lv_has ls 3 [(0, .ref h0), (1, .ref fa)] := hl
  have hP : va_P D vwCl [(h0, .inr (7, [.ref q1, .ref q2, .int qd, .ref q3, .ref q4, .int 0])), (fa, .inr (3, [.ref cu, .ref rv, .ref bt, .int 0, .int ho, .int fe]))] s.heap := hP
  refine lv_iconst (v := 0) hx hb dX8_hasSomebodyStuck_0 (by decide) ?_
  refine lv_istore_n (lv' := [(2, .int 0), (0, .ref h0), (1, .ref fa)]) hx hb dX8_hasSomebodyStuck_1 rfl hl (by decide) rfl (fun ls hl => ?_)
  refine lv_iload_n hx hb dX8_hasSomebodyStuck_2 rfl (lv_at hl 0 rfl) ?_
  refine lv_aload_n hx hb dX8_hasSomebodyStuck_3 rfl (lv_at hl 2 rfl) ?_
  refine va_get (D := D) (ci := 3) (v := .int 0) (C := RX3) (T := TX3) (N := 6) hx hb hts inG_X3 hown hK hP 1 rfl rfl 3 (by decide) (hts _ kw_1_228) (fun _ h9 => h9) rfl dX8_hasSomebodyStuck_4 ?_
  refine lv_icmp_ge (tgt := 45) hx hb dX8_hasSomebodyStuck_7 (by decide) (fun c_1 => ?_) (fun c_1 => absurd c_1 (by decide))
  refine lv_iconst (v := 0) hx hb dX8_hasSomebodyStuck_45 (by decide) ?_
  have hP9 := hP.sub (ws' := [(h0, .inr (7, [.ref q1, .ref q2, .int qd, .ref q3, .ref q4, .int 0])), (fa, .inr (3, [.ref cu, .ref rv, .ref bt, .int 0, .int ho, .int fe]))]) [0, 1] rfl
  have hD9 := hD.sub (ws' := [(h0, .inr (7, [.ref q1, .ref q2, .int qd, .ref q3, .ref q4, .int 0])), (fa, .inr (3, [.ref cu, .ref rv, .ref bt, .int 0, .int ho, .int fe]))]) [0, 1] (by decide) rfl
  have hK9 := hK.sub (tys' := []) [] rfl
  refine W.widen (k := 0) (n := 0) (by decide) (by decide) ?_
  exact W.zret (v := 0) hx hb hr rfl (fun t ht hW => ⟨⟨0, (), rfl, rfl, by rw [ht]; exact hP9, va_K.moved hW.alike hK9, hD9⟩, hS.F ht⟩) hS.2.2 dX8_hasSomebodyStuck_46
theorem dX8_leastMinutes_0 : decode cX8_leastMinutes 0 = .ok (.aload_n 0, 1) := by decide +kernel
theorem dX8_leastMinutes_1 : decode cX8_leastMinutes 1 = .ok (.aload_n 1, 1) := by decide +kernel
theorem kw_4_2 : Cond.methodLink RX8 63 yX8_measure ∈ gw := gw_t4 (List.mem_of_getElem? (i := 2) (by decide +kernel)) (by decide +kernel)
theorem kw_4_4 : Cond.instanceMethod yX8_measure ∈ gw := gw_t4 (List.mem_of_getElem? (i := 4) (by decide +kernel)) (by decide +kernel)
theorem ks_2_6 : Cond.selects RX8 yX8_measure yX8_measure ∈ gw := gw_s (y := yX8_measure) (n := 6) (List.mem_append_right _ (List.mem_append_left _ (List.mem_of_getElem? (i := 6) (by decide +kernel))))
theorem kw_4_5 : Cond.code yX8_measure cX8_measure 5 none ∈ gw := gw_t4 (List.mem_of_getElem? (i := 5) (by decide +kernel)) (by decide +kernel)
theorem gk_X8_63 : GoodIn gw (wsV RX8 63 RX8 yX8_measure (.code yX8_measure cX8_measure 5 none :: gw)) ∧ (yX8_measure.cls = RX8 ∧ yX8_measure.cls ≠ "java/lang/invoke/MethodHandle" ∧ yX8_measure.cls ≠ "java/lang/invoke/VarHandle" ∧ (parseMethodDescriptor yX8_measure.desc).map (fun d => d.parameters.length) = some 1) := ⟨gi_V kw_4_2 kw_4_4 ks_2_6 kw_1_10 kw_4_5, by decide +kernel⟩
theorem dX8_leastMinutes_2 : decode cX8_leastMinutes 2 = .ok (.invokevirtual 63, 3) := by decide +kernel
theorem dX8_leastMinutes_5 : decode cX8_leastMinutes 5 = .ok (.aload_n 0, 1) := by decide +kernel
theorem dX8_leastMinutes_6 : decode cX8_leastMinutes 6 = .ok (.aload_n 1, 1) := by decide +kernel
theorem kw_4_29 : Cond.methodLink RX8 67 yX8_hasSomebodyStuck ∈ gw := gw_t4 (List.mem_of_getElem? (i := 29) (by decide +kernel)) (by decide +kernel)
theorem kw_4_31 : Cond.instanceMethod yX8_hasSomebodyStuck ∈ gw := gw_t4 (List.mem_of_getElem? (i := 31) (by decide +kernel)) (by decide +kernel)
theorem ks_2_11 : Cond.selects RX8 yX8_hasSomebodyStuck yX8_hasSomebodyStuck ∈ gw := gw_s (y := yX8_hasSomebodyStuck) (n := 6) (List.mem_append_right _ (List.mem_append_left _ (List.mem_of_getElem? (i := 11) (by decide +kernel))))
theorem kw_4_32 : Cond.code yX8_hasSomebodyStuck cX8_hasSomebodyStuck 3 (some .boolean) ∈ gw := gw_t4 (List.mem_of_getElem? (i := 32) (by decide +kernel)) (by decide +kernel)
theorem gk_X8_67 : GoodIn gw (wsV RX8 67 RX8 yX8_hasSomebodyStuck (.code yX8_hasSomebodyStuck cX8_hasSomebodyStuck 3 (some .boolean) :: gw)) ∧ (yX8_hasSomebodyStuck.cls = RX8 ∧ yX8_hasSomebodyStuck.cls ≠ "java/lang/invoke/MethodHandle" ∧ yX8_hasSomebodyStuck.cls ≠ "java/lang/invoke/VarHandle" ∧ (parseMethodDescriptor yX8_hasSomebodyStuck.desc).map (fun d => d.parameters.length) = some 1) := ⟨gi_V kw_4_29 kw_4_31 ks_2_11 kw_1_10 kw_4_32, by decide +kernel⟩
theorem dX8_leastMinutes_7 : decode cX8_leastMinutes 7 = .ok (.invokevirtual 67, 3) := by decide +kernel
theorem dX8_leastMinutes_10 : decode cX8_leastMinutes 10 = .ok (.ifCond .eq 5, 3) := by decide +kernel
theorem dX8_leastMinutes_15 : decode cX8_leastMinutes 15 = .ok (.iconst 0, 1) := by decide +kernel
theorem dX8_leastMinutes_16 : decode cX8_leastMinutes 16 = .ok (.istore_n 2, 1) := by decide +kernel
theorem dX8_leastMinutes_17 : decode cX8_leastMinutes 17 = .ok (.iconst 1, 1) := by decide +kernel
theorem dX8_leastMinutes_18 : decode cX8_leastMinutes 18 = .ok (.istore_n 3, 1) := by decide +kernel
theorem dX8_leastMinutes_19 : decode cX8_leastMinutes 19 = .ok (.iload_n 3, 1) := by decide +kernel
theorem dX8_leastMinutes_20 : decode cX8_leastMinutes 20 = .ok (.iconst 1, 1) := by decide +kernel
theorem dX8_leastMinutes_21 : decode cX8_leastMinutes 21 = .ok (.aload_n 1, 1) := by decide +kernel
theorem dX8_leastMinutes_22 : decode cX8_leastMinutes 22 = .ok (.getfield 71, 3) := by decide +kernel
theorem dX8_leastMinutes_25 : decode cX8_leastMinutes 25 = .ok (.ishl, 1) := by decide +kernel
theorem dX8_leastMinutes_26 : decode cX8_leastMinutes 26 = .ok (.if_icmp .ge 38, 3) := by decide +kernel
theorem dX8_leastMinutes_64 : decode cX8_leastMinutes 64 = .ok (.iload_n 2, 1) := by decide +kernel
theorem dX8_leastMinutes_65 : decode cX8_leastMinutes 65 = .ok (.ireturn, 1) := by decide +kernel
set_option maxHeartbeats 4000000 in
set_option maxRecDepth 100000 in
theorem c_least0 (l : Launch) (D : va_G) (h0 : Nat) (fa : Nat) (cu : Nat) (rv : Nat) (bt : Nat) (q1 : Nat) (q2 : Nat) (q3 : Nat) (q4 : Nat) (cu1 : Nat) (cu2 : Nat) (cu3 : Nat) (cu4 : Nat) (qd : Int32) (cr : Int32) (ho : Int32) (fe : Int32) : cI l yX8_leastMinutes (.code yX8_leastMinutes cX8_leastMinutes 4 (some .int)) ({ frames := 5, cells := 0, slots := 0, locals := 129 }) D [] [(h0, .inr (7, [.ref q1, .ref q2, .int qd, .ref q3, .ref q4, .int cr])), (fa, .inr (3, [.ref cu, .ref rv, .ref bt, .int 0, .int ho, .int fe])), (cu, .inr (1, [.ref cu1, .ref cu2, .ref cu3, .ref cu4, .int 0, .int 0]))] xT [.ref h0, .ref fa] (S := Unit) (fun r _ => r = 0) (fun _ => []) (fun _ => [(h0, .inr (7, [.ref q1, .ref q2, .int qd, .ref q3, .ref q4, .int 0])), (fa, .inr (3, [.ref cu, .ref rv, .ref bt, .int 0, .int ho, .int fe])), (cu, .inr (1, [.ref cu1, .ref cu2, .ref cu3, .ref cu4, .int 0, .int 0]))]) := by
  intro sz
  refine Met.ofW (cc := cX8_leastMinutes) (maxL := 4) (ret := (some .int)) (by decide) rfl ?_
  intro p e s m args below meth c s₁ B hml hv
  obtain ⟨rfl, hsz, hP, hK, hD0, hX⟩ := hv
  have hx := B.exec
  have hb := B.bytes
  have hr := B.returns
  have hts0 := atoms_spec (ws := .code yX8_leastMinutes cX8_leastMinutes 4 (some .int) :: gw) B.pre
  have hts := fun (w : Cond) (h : w ∈ gw) => hts0 w (List.mem_cons_of_mem _ h)
  have hown : s.vm.findClass RX8 = some m.cls := findClass_of_methodNamed B.named
  have hlocks := B.notSynchronized
  have F : mFix p s m _ c cX8_leastMinutes 4 RX8 := ⟨hx, hb, hml, hown, hts⟩
  subst hsz
  have hD := hD0.self (sz := s.heap.size)
  generalize hAe : va_A [(h0, .inr (7, [.ref q1, .ref q2, .int qd, .ref q3, .ref q4, .int cr])), (fa, .inr (3, [.ref cu, .ref rv, .ref bt, .int 0, .int ho, .int fe])), (cu, .inr (1, [.ref cu1, .ref cu2, .ref cu3, .ref cu4, .int 0, .int 0]))] s.heap.size = A at hD hX ⊢
  have hA : ∀ q : Nat, s.heap.size ≤ q → A q := fun q h => by rw [← hAe]; exact Or.inr h
  have hS : va_S A s.heap s.heap [] := va_S.rf
  have hl := lv_entry ([.ref h0, .ref fa]) (n := 4) (Nat.le_of_ble_eq_true rfl)
  rw [lg_entry_eq]
  generalize (lg_sl ([.ref h0, .ref fa]) ++ List.replicate (4 - (lg_sl ([.ref h0, .ref fa])).length) Slot.unset).toArray = ls at hl ⊢
  have hl : lv_has ls 4 [(0, .ref h0), (1, .ref fa)] := hl
  have hP : va_P D vwCl [(h0, .inr (7, [.ref q1, .ref q2, .int qd, .ref q3, .ref q4, .int cr])), (fa, .inr (3, [.ref cu, .ref rv, .ref bt, .int 0, .int ho, .int fe])), (cu, .inr (1, [.ref cu1, .ref cu2, .ref cu3, .ref cu4, .int 0, .int 0]))] s.heap := hP
  refine lv_aload_n hx hb dX8_leastMinutes_0 rfl (lv_at hl 0 rfl) ?_
  refine lv_aload_n hx hb dX8_leastMinutes_1 rfl (lv_at hl 1 rfl) ?_
  refine mc_Vv (rest := []) (wr := []) F hK hP hD hS hA (c_measure0 l D h0 fa cu rv bt q1 q2 q3 q4 cu1 cu2 cu3 cu4 qd cr ho fe ) ⟨gk_X8_63.1, gk_X8_63.2, Nat.le_of_ble_eq_true rfl, Nat.le_of_ble_eq_true rfl⟩ [0, 1, 2] [] [] ⟨rfl, rfl, rfl, rfl, by decide⟩ rfl xT_move (fun _ _ _ => trivial) 0 rfl rfl rfl hl.1 rfl (Nat.le_of_ble_eq_true rfl) dX8_leastMinutes_2 ⟨Nat.le_of_ble_eq_true rfl, Nat.le_of_ble_eq_true rfl⟩ (fun _ H locs hw hK1 hP hD hS => ?_)
  have hP : va_P D vwCl [(h0, .inr (7, [.ref q1, .ref q2, .int qd, .ref q3, .ref q4, .int 0])), (fa, .inr (3, [.ref cu, .ref rv, .ref bt, .int 0, .int ho, .int fe])), (cu, .inr (1, [.ref cu1, .ref cu2, .ref cu3, .ref cu4, .int 0, .int 0]))] H := hP
  have hD : va_D A [(h0, .inr (7, [.ref q1, .ref q2, .int qd, .ref q3, .ref q4, .int 0])), (fa, .inr (3, [.ref cu, .ref rv, .ref bt, .int 0, .int ho, .int fe])), (cu, .inr (1, [.ref cu1, .ref cu2, .ref cu3, .ref cu4, .int 0, .int 0]))] := hD
  refine lv_aload_n hx hb dX8_leastMinutes_5 rfl (lv_at hl 0 rfl) ?_
  refine lv_aload_n hx hb dX8_leastMinutes_6 rfl (lv_at hl 1 rfl) ?_
  refine mc_Vi (rest := []) (wr := [(cu, .inr (1, [.ref cu1, .ref cu2, .ref cu3, .ref cu4, .int 0, .int 0]))]) F hK hP hD hS hA (c_stuck0 l D h0 fa cu rv bt q1 q2 q3 q4 qd ho fe ) ⟨gk_X8_67.1, gk_X8_67.2, Nat.le_of_ble_eq_true rfl, Nat.le_of_ble_eq_true rfl⟩ [0, 1] [2] [] ⟨rfl, rfl, rfl, rfl, by decide⟩ rfl xT_move (fun _ _ _ => trivial) 0 rfl rfl rfl hl.1 rfl (Nat.le_of_ble_eq_true rfl) dX8_leastMinutes_7 ⟨Nat.le_of_ble_eq_true rfl, Nat.le_of_ble_eq_true rfl⟩ (fun r_3 _ H locs hw hK1 hP hD hS => ?_)
  have hP : va_P D vwCl [(cu, .inr (1, [.ref cu1, .ref cu2, .ref cu3, .ref cu4, .int 0, .int 0])), (h0, .inr (7, [.ref q1, .ref q2, .int qd, .ref q3, .ref q4, .int 0])), (fa, .inr (3, [.ref cu, .ref rv, .ref bt, .int 0, .int ho, .int fe]))] H := hP
  have hD : va_D A [(cu, .inr (1, [.ref cu1, .ref cu2, .ref cu3, .ref cu4, .int 0, .int 0])), (h0, .inr (7, [.ref q1, .ref q2, .int qd, .ref q3, .ref q4, .int 0])), (fa, .inr (3, [.ref cu, .ref rv, .ref bt, .int 0, .int ho, .int fe]))] := hD
  have hw_4 : r_3 = 0 := hw
  obtain rfl : r_3 = 0 := hw_4
  refine lv_if_eq (tgt := 15) hx hb dX8_leastMinutes_10 (by decide) (fun c_5 => ?_) (fun c_5 => absurd c_5 (by decide))
  refine lv_iconst (v := 0) hx hb dX8_leastMinutes_15 (by decide) ?_
  refine lv_istore_n (lv' := [(2, .int 0), (0, .ref h0), (1, .ref fa)]) hx hb dX8_leastMinutes_16 rfl hl (by decide) rfl (fun ls hl => ?_)
  refine lv_iconst (v := 1) hx hb dX8_leastMinutes_17 (by decide) ?_
  refine lv_istore_n (lv' := [(3, .int 1), (2, .int 0), (0, .ref h0), (1, .ref fa)]) hx hb dX8_leastMinutes_18 rfl hl (by decide) rfl (fun ls hl => ?_)
  refine lv_iload_n hx hb dX8_leastMinutes_19 rfl (lv_at hl 0 rfl) ?_
  refine lv_iconst (v := 1) hx hb dX8_leastMinutes_20 (by decide) ?_
  refine lv_aload_n hx hb dX8_leastMinutes_21 rfl (lv_at hl 3 rfl) ?_
  refine va_get (D := D) (ci := 3) (v := .int 0) (C := RX3) (T := TX3) (N := 6) hx hb hts inG_X3 hown hK hP 2 rfl rfl 3 (by decide) (hts _ kw_1_228) (fun _ h9 => h9) rfl dX8_leastMinutes_22 ?_
  refine lv_ishl hx hb dX8_leastMinutes_25 ?_
  refine lv_topi (fun z_6 ez_6 => ?_)
  obtain rfl : z_6 = (1 : Int32) := ez_6.trans (by decide)
  refine lv_icmp_ge (tgt := 64) hx hb dX8_leastMinutes_26 (by decide) (fun c_7 => ?_) (fun c_7 => absurd c_7 (by decide))
  refine lv_iload_n hx hb dX8_leastMinutes_64 rfl (lv_at hl 1 rfl) ?_
  have hP9 := hP.sub (ws' := [(h0, .inr (7, [.ref q1, .ref q2, .int qd, .ref q3, .ref q4, .int 0])), (fa, .inr (3, [.ref cu, .ref rv, .ref bt, .int 0, .int ho, .int fe])), (cu, .inr (1, [.ref cu1, .ref cu2, .ref cu3, .ref cu4, .int 0, .int 0]))]) [1, 2, 0] rfl
  have hD9 := hD.sub (ws' := [(h0, .inr (7, [.ref q1, .ref q2, .int qd, .ref q3, .ref q4, .int 0])), (fa, .inr (3, [.ref cu, .ref rv, .ref bt, .int 0, .int ho, .int fe])), (cu, .inr (1, [.ref cu1, .ref cu2, .ref cu3, .ref cu4, .int 0, .int 0]))]) [1, 2, 0] (by decide) rfl
  have hK9 := hK.sub (tys' := []) [] rfl
  refine W.widen (k := 0) (n := 0) (by decide) (by decide) ?_
  exact W.iret (v := 0) hx hb hr (fun t ht hW => ⟨⟨0, (), rfl, rfl, by rw [ht]; exact hP9, va_K.moved hW.alike hK9, hD9⟩, hS.F ht⟩) hS.2.2 dX8_leastMinutes_65
theorem dX9_soon_0 : decode cX9_soon 0 = .ok (.aload_n 0, 1) := by decide +kernel
theorem dX9_soon_1 : decode cX9_soon 1 = .ok (.getfield 47, 3) := by decide +kernel
theorem dX9_soon_4 : decode cX9_soon 4 = .ok (.aload_n 0, 1) := by decide +kernel
theorem dX9_soon_5 : decode cX9_soon 5 = .ok (.getfield 33, 3) := by decide +kernel
theorem kw_3_238 : Cond.methodLink RX9 135 yX8_leastMinutes ∈ gw := gw_t3 (List.mem_of_getElem? (i := 238) (by decide +kernel)) (by decide +kernel)
theorem kw_3_239 : Cond.instanceMethod yX8_leastMinutes ∈ gw := gw_t3 (List.mem_of_getElem? (i := 239) (by decide +kernel)) (by decide +kernel)
theorem kw_4_0 : Cond.selects RX8 yX8_leastMinutes yX8_leastMinutes ∈ gw := gw_t4 (List.mem_of_getElem? (i := 0) (by decide +kernel)) (by decide +kernel)
theorem kw_4_1 : Cond.code yX8_leastMinutes cX8_leastMinutes 4 (some .int) ∈ gw := gw_t4 (List.mem_of_getElem? (i := 1) (by decide +kernel)) (by decide +kernel)
theorem gk_X9_135 : GoodIn gw (wsV RX9 135 RX8 yX8_leastMinutes (.code yX8_leastMinutes cX8_leastMinutes 4 (some .int) :: gw)) ∧ (yX8_leastMinutes.cls = RX8 ∧ yX8_leastMinutes.cls ≠ "java/lang/invoke/MethodHandle" ∧ yX8_leastMinutes.cls ≠ "java/lang/invoke/VarHandle" ∧ (parseMethodDescriptor yX8_leastMinutes.desc).map (fun d => d.parameters.length) = some 1) := ⟨gi_V kw_3_238 kw_3_239 kw_4_0 kw_1_10 kw_4_1, by decide +kernel⟩
theorem dX9_soon_8 : decode cX9_soon 8 = .ok (.invokevirtual 135, 3) := by decide +kernel
theorem dX9_soon_11 : decode cX9_soon 11 = .ok (.ireturn, 1) := by decide +kernel
set_option maxHeartbeats 4000000 in
set_option maxRecDepth 100000 in
theorem c_soon (l : Launch) (D : va_G) (h0 : Nat) (tp : Nat) (rd : Nat) (dr : Nat) (fa : Nat) (ly : Nat) (wy : Nat) (cu : Nat) (rv : Nat) (bt : Nat) (cu1 : Nat) (cu2 : Nat) (cu3 : Nat) (cu4 : Nat) (wy1 : Nat) (wy2 : Nat) (wy3 : Nat) (wy4 : Nat) : cI l yX9_soon (.code yX9_soon cX9_soon 1 (some .int)) ({ frames := 6, cells := 0, slots := 0, locals := 152 }) D [] [(h0, .inr (8, [.ref tp, .ref rd, .ref dr, .ref fa, .ref ly, .ref wy])), (wy, .inr (7, [.ref wy1, .ref wy2, .int 0, .ref wy3, .ref wy4, .int 0])), (fa, .inr (3, [.ref cu, .ref rv, .ref bt, .int 0, .int 0, .int 0])), (cu, .inr (1, [.ref cu1, .ref cu2, .ref cu3, .ref cu4, .int 0, .int 0]))] xT [.ref h0] (S := Unit) (fun r _ => r = 0) (fun _ => []) (fun _ => []) := by
  intro sz
  refine Met.ofW (cc := cX9_soon) (maxL := 1) (ret := (some .int)) (by decide) rfl ?_
  intro p e s m args below meth c s₁ B hml hv
  obtain ⟨rfl, hsz, hP, hK, hD0, hX⟩ := hv
  have hx := B.exec
  have hb := B.bytes
  have hr := B.returns
  have hts0 := atoms_spec (ws := .code yX9_soon cX9_soon 1 (some .int) :: gw) B.pre
  have hts := fun (w : Cond) (h : w ∈ gw) => hts0 w (List.mem_cons_of_mem _ h)
  have hown : s.vm.findClass RX9 = some m.cls := findClass_of_methodNamed B.named
  have hlocks := B.notSynchronized
  have F : mFix p s m _ c cX9_soon 1 RX9 := ⟨hx, hb, hml, hown, hts⟩
  subst hsz
  have hD := hD0.self (sz := s.heap.size)
  generalize hAe : va_A [(h0, .inr (8, [.ref tp, .ref rd, .ref dr, .ref fa, .ref ly, .ref wy])), (wy, .inr (7, [.ref wy1, .ref wy2, .int 0, .ref wy3, .ref wy4, .int 0])), (fa, .inr (3, [.ref cu, .ref rv, .ref bt, .int 0, .int 0, .int 0])), (cu, .inr (1, [.ref cu1, .ref cu2, .ref cu3, .ref cu4, .int 0, .int 0]))] s.heap.size = A at hD hX ⊢
  have hA : ∀ q : Nat, s.heap.size ≤ q → A q := fun q h => by rw [← hAe]; exact Or.inr h
  have hS : va_S A s.heap s.heap [] := va_S.rf
  have hl := lv_entry ([.ref h0]) (n := 1) (Nat.le_of_ble_eq_true rfl)
  rw [lg_entry_eq]
  generalize (lg_sl ([.ref h0]) ++ List.replicate (1 - (lg_sl ([.ref h0])).length) Slot.unset).toArray = ls at hl ⊢
  have hl : lv_has ls 1 [(0, .ref h0)] := hl
  have hP : va_P D vwCl [(h0, .inr (8, [.ref tp, .ref rd, .ref dr, .ref fa, .ref ly, .ref wy])), (wy, .inr (7, [.ref wy1, .ref wy2, .int 0, .ref wy3, .ref wy4, .int 0])), (fa, .inr (3, [.ref cu, .ref rv, .ref bt, .int 0, .int 0, .int 0])), (cu, .inr (1, [.ref cu1, .ref cu2, .ref cu3, .ref cu4, .int 0, .int 0]))] s.heap := hP
  refine lv_aload_n hx hb dX9_soon_0 rfl (lv_at hl 0 rfl) ?_
  refine va_get (D := D) (ci := 8) (v := .ref wy) (C := RX9) (T := TX9) (N := 6) hx hb hts inG_X9 hown hK hP 0 rfl rfl 5 (by decide) (hts _ kw_2_72) (fun _ h9 => h9) rfl dX9_soon_1 ?_
  refine lv_aload_n hx hb dX9_soon_4 rfl (lv_at hl 0 rfl) ?_
  refine va_get (D := D) (ci := 8) (v := .ref fa) (C := RX9) (T := TX9) (N := 6) hx hb hts inG_X9 hown hK hP 0 rfl rfl 3 (by decide) (hts _ kw_2_70) (fun _ h9 => h9) rfl dX9_soon_5 ?_
  refine mc_Vi (rest := []) (wr := [(h0, .inr (8, [.ref tp, .ref rd, .ref dr, .ref fa, .ref ly, .ref wy]))]) F hK hP hD hS hA (c_least0 l D wy fa cu rv bt wy1 wy2 wy3 wy4 cu1 cu2 cu3 cu4 0 0 0 0 ) ⟨gk_X9_135.1, gk_X9_135.2, Nat.le_of_ble_eq_true rfl, Nat.le_of_ble_eq_true rfl⟩ [1, 2, 3] [0] [] ⟨rfl, rfl, rfl, rfl, by decide⟩ rfl xT_move (fun _ _ _ => trivial) 1 rfl rfl rfl hl.1 rfl (Nat.le_of_ble_eq_true rfl) dX9_soon_8 ⟨Nat.le_of_ble_eq_true rfl, Nat.le_of_ble_eq_true rfl⟩ (fun r_1 _ H locs hw hK1 hP hD hS => ?_)
  have hP : va_P D vwCl [(h0, .inr (8, [.ref tp, .ref rd, .ref dr, .ref fa, .ref ly, .ref wy])), (wy, .inr (7, [.ref wy1, .ref wy2, .int 0, .ref wy3, .ref wy4, .int 0])), (fa, .inr (3, [.ref cu, .ref rv, .ref bt, .int 0, .int 0, .int 0])), (cu, .inr (1, [.ref cu1, .ref cu2, .ref cu3, .ref cu4, .int 0, .int 0]))] H := hP
  have hD : va_D A [(h0, .inr (8, [.ref tp, .ref rd, .ref dr, .ref fa, .ref ly, .ref wy])), (wy, .inr (7, [.ref wy1, .ref wy2, .int 0, .ref wy3, .ref wy4, .int 0])), (fa, .inr (3, [.ref cu, .ref rv, .ref bt, .int 0, .int 0, .int 0])), (cu, .inr (1, [.ref cu1, .ref cu2, .ref cu3, .ref cu4, .int 0, .int 0]))] := hD
  have hw_2 : r_1 = 0 := hw
  obtain rfl : r_1 = 0 := hw_2
  have hP9 := hP.sub (ws' := []) [] rfl
  have hD9 := hD.sub (ws' := []) [] (by decide) rfl
  have hK9 := hK.sub (tys' := []) [] rfl
  refine W.widen (k := 0) (n := 0) (by decide) (by decide) ?_
  exact W.iret (v := 0) hx hb hr (fun t ht hW => ⟨⟨0, (), rfl, rfl, by rw [ht]; exact hP9, va_K.moved hW.alike hK9, hD9⟩, hS.F ht⟩) hS.2.2 dX9_soon_11
theorem dX9_proof_0 : decode cX9_proof 0 = .ok (.aload_n 0, 1) := by decide +kernel
theorem dX9_proof_1 : decode cX9_proof 1 = .ok (.getfield 47, 3) := by decide +kernel
theorem dX9_proof_4 : decode cX9_proof 4 = .ok (.aload_n 0, 1) := by decide +kernel
theorem dX9_proof_5 : decode cX9_proof 5 = .ok (.getfield 33, 3) := by decide +kernel
theorem dX9_proof_8 : decode cX9_proof 8 = .ok (.invokevirtual 135, 3) := by decide +kernel
theorem dX9_proof_11 : decode cX9_proof 11 = .ok (.istore_n 1, 1) := by decide +kernel
theorem dX9_proof_12 : decode cX9_proof 12 = .ok (.iload_n 1, 1) := by decide +kernel
theorem dX9_proof_13 : decode cX9_proof 13 = .ok (.ifCond .gt 7, 3) := by decide +kernel
theorem dX9_proof_16 : decode cX9_proof 16 = .ok (.iconst (-1), 1) := by decide +kernel
theorem dX9_proof_17 : decode cX9_proof 17 = .ok (.goto 15, 3) := by decide +kernel
theorem dX9_proof_32 : decode cX9_proof 32 = .ok (.ireturn, 1) := by decide +kernel
set_option maxHeartbeats 4000000 in
set_option maxRecDepth 100000 in
theorem c_proof (l : Launch) (D : va_G) (h0 : Nat) (tp : Nat) (rd : Nat) (dr : Nat) (fa : Nat) (ly : Nat) (wy : Nat) (cu : Nat) (rv : Nat) (bt : Nat) (cu1 : Nat) (cu2 : Nat) (cu3 : Nat) (cu4 : Nat) (wy1 : Nat) (wy2 : Nat) (wy3 : Nat) (wy4 : Nat) : cI l yX9_proof (.code yX9_proof cX9_proof 2 (some .int)) ({ frames := 6, cells := 0, slots := 0, locals := 152 }) D [] [(h0, .inr (8, [.ref tp, .ref rd, .ref dr, .ref fa, .ref ly, .ref wy])), (wy, .inr (7, [.ref wy1, .ref wy2, .int 0, .ref wy3, .ref wy4, .int 0])), (fa, .inr (3, [.ref cu, .ref rv, .ref bt, .int 0, .int 0, .int 0])), (cu, .inr (1, [.ref cu1, .ref cu2, .ref cu3, .ref cu4, .int 0, .int 0]))] xT [.ref h0] (S := Unit) (fun r _ => r = (-1)) (fun _ => []) (fun _ => []) := by
  intro sz
  refine Met.ofW (cc := cX9_proof) (maxL := 2) (ret := (some .int)) (by decide) rfl ?_
  intro p e s m args below meth c s₁ B hml hv
  obtain ⟨rfl, hsz, hP, hK, hD0, hX⟩ := hv
  have hx := B.exec
  have hb := B.bytes
  have hr := B.returns
  have hts0 := atoms_spec (ws := .code yX9_proof cX9_proof 2 (some .int) :: gw) B.pre
  have hts := fun (w : Cond) (h : w ∈ gw) => hts0 w (List.mem_cons_of_mem _ h)
  have hown : s.vm.findClass RX9 = some m.cls := findClass_of_methodNamed B.named
  have hlocks := B.notSynchronized
  have F : mFix p s m _ c cX9_proof 2 RX9 := ⟨hx, hb, hml, hown, hts⟩
  subst hsz
  have hD := hD0.self (sz := s.heap.size)
  generalize hAe : va_A [(h0, .inr (8, [.ref tp, .ref rd, .ref dr, .ref fa, .ref ly, .ref wy])), (wy, .inr (7, [.ref wy1, .ref wy2, .int 0, .ref wy3, .ref wy4, .int 0])), (fa, .inr (3, [.ref cu, .ref rv, .ref bt, .int 0, .int 0, .int 0])), (cu, .inr (1, [.ref cu1, .ref cu2, .ref cu3, .ref cu4, .int 0, .int 0]))] s.heap.size = A at hD hX ⊢
  have hA : ∀ q : Nat, s.heap.size ≤ q → A q := fun q h => by rw [← hAe]; exact Or.inr h
  have hS : va_S A s.heap s.heap [] := va_S.rf
  have hl := lv_entry ([.ref h0]) (n := 2) (Nat.le_of_ble_eq_true rfl)
  rw [lg_entry_eq]
  generalize (lg_sl ([.ref h0]) ++ List.replicate (2 - (lg_sl ([.ref h0])).length) Slot.unset).toArray = ls at hl ⊢
  have hl : lv_has ls 2 [(0, .ref h0)] := hl
  have hP : va_P D vwCl [(h0, .inr (8, [.ref tp, .ref rd, .ref dr, .ref fa, .ref ly, .ref wy])), (wy, .inr (7, [.ref wy1, .ref wy2, .int 0, .ref wy3, .ref wy4, .int 0])), (fa, .inr (3, [.ref cu, .ref rv, .ref bt, .int 0, .int 0, .int 0])), (cu, .inr (1, [.ref cu1, .ref cu2, .ref cu3, .ref cu4, .int 0, .int 0]))] s.heap := hP
  refine lv_aload_n hx hb dX9_proof_0 rfl (lv_at hl 0 rfl) ?_
  refine va_get (D := D) (ci := 8) (v := .ref wy) (C := RX9) (T := TX9) (N := 6) hx hb hts inG_X9 hown hK hP 0 rfl rfl 5 (by decide) (hts _ kw_2_72) (fun _ h9 => h9) rfl dX9_proof_1 ?_
  refine lv_aload_n hx hb dX9_proof_4 rfl (lv_at hl 0 rfl) ?_
  refine va_get (D := D) (ci := 8) (v := .ref fa) (C := RX9) (T := TX9) (N := 6) hx hb hts inG_X9 hown hK hP 0 rfl rfl 3 (by decide) (hts _ kw_2_70) (fun _ h9 => h9) rfl dX9_proof_5 ?_
  refine mc_Vi (rest := []) (wr := [(h0, .inr (8, [.ref tp, .ref rd, .ref dr, .ref fa, .ref ly, .ref wy]))]) F hK hP hD hS hA (c_least0 l D wy fa cu rv bt wy1 wy2 wy3 wy4 cu1 cu2 cu3 cu4 0 0 0 0 ) ⟨gk_X9_135.1, gk_X9_135.2, Nat.le_of_ble_eq_true rfl, Nat.le_of_ble_eq_true rfl⟩ [1, 2, 3] [0] [] ⟨rfl, rfl, rfl, rfl, by decide⟩ rfl xT_move (fun _ _ _ => trivial) 1 rfl rfl rfl hl.1 rfl (Nat.le_of_ble_eq_true rfl) dX9_proof_8 ⟨Nat.le_of_ble_eq_true rfl, Nat.le_of_ble_eq_true rfl⟩ (fun r_1 _ H locs hw hK1 hP hD hS => ?_)
  have hP : va_P D vwCl [(h0, .inr (8, [.ref tp, .ref rd, .ref dr, .ref fa, .ref ly, .ref wy])), (wy, .inr (7, [.ref wy1, .ref wy2, .int 0, .ref wy3, .ref wy4, .int 0])), (fa, .inr (3, [.ref cu, .ref rv, .ref bt, .int 0, .int 0, .int 0])), (cu, .inr (1, [.ref cu1, .ref cu2, .ref cu3, .ref cu4, .int 0, .int 0]))] H := hP
  have hD : va_D A [(h0, .inr (8, [.ref tp, .ref rd, .ref dr, .ref fa, .ref ly, .ref wy])), (wy, .inr (7, [.ref wy1, .ref wy2, .int 0, .ref wy3, .ref wy4, .int 0])), (fa, .inr (3, [.ref cu, .ref rv, .ref bt, .int 0, .int 0, .int 0])), (cu, .inr (1, [.ref cu1, .ref cu2, .ref cu3, .ref cu4, .int 0, .int 0]))] := hD
  have hw_2 : r_1 = 0 := hw
  obtain rfl : r_1 = 0 := hw_2
  refine lv_istore_n (lv' := [(1, .int 0), (0, .ref h0)]) hx hb dX9_proof_11 rfl hl (by decide) rfl (fun ls hl => ?_)
  refine lv_iload_n hx hb dX9_proof_12 rfl (lv_at hl 0 rfl) ?_
  refine lv_if_gt (tgt := 20) hx hb dX9_proof_13 (by decide) (fun c_3 => absurd c_3 (by decide)) (fun c_3 => ?_)
  refine lv_iconst (v := -1) hx hb dX9_proof_16 (by decide) ?_
  refine lv_goto (tgt := 32) hx hb dX9_proof_17 (by decide) ?_
  have hP9 := hP.sub (ws' := []) [] rfl
  have hD9 := hD.sub (ws' := []) [] (by decide) rfl
  have hK9 := hK.sub (tys' := []) [] rfl
  refine W.widen (k := 0) (n := 0) (by decide) (by decide) ?_
  exact W.iret (v := (-1)) hx hb hr (fun t ht hW => ⟨⟨((-1)), (), rfl, rfl, by rw [ht]; exact hP9, va_K.moved hW.alike hK9, hD9⟩, hS.F ht⟩) hS.2.2 dX9_proof_32
theorem dX3_boothsInState_0 : decode cX3_boothsInState 0 = .ok (.iconst 0, 1) := by decide +kernel
theorem dX3_boothsInState_1 : decode cX3_boothsInState 1 = .ok (.istore_n 2, 1) := by decide +kernel
theorem dX3_boothsInState_2 : decode cX3_boothsInState 2 = .ok (.iconst 0, 1) := by decide +kernel
theorem dX3_boothsInState_3 : decode cX3_boothsInState 3 = .ok (.istore_n 3, 1) := by decide +kernel
theorem dX3_boothsInState_4 : decode cX3_boothsInState 4 = .ok (.iload_n 3, 1) := by decide +kernel
theorem dX3_boothsInState_5 : decode cX3_boothsInState 5 = .ok (.aload_n 0, 1) := by decide +kernel
theorem dX3_boothsInState_6 : decode cX3_boothsInState 6 = .ok (.getfield 36, 3) := by decide +kernel
theorem dX3_boothsInState_9 : decode cX3_boothsInState 9 = .ok (.if_icmp .ge 31, 3) := by decide +kernel
theorem dX3_boothsInState_40 : decode cX3_boothsInState 40 = .ok (.iload_n 2, 1) := by decide +kernel
theorem dX3_boothsInState_41 : decode cX3_boothsInState 41 = .ok (.ireturn, 1) := by decide +kernel
set_option maxHeartbeats 4000000 in
set_option maxRecDepth 100000 in
theorem c_inState0 (l : Launch) (D : va_G) (h0 : Nat) (cu : Nat) (rv : Nat) (bt : Nat) (ho : Int32) (fe : Int32) (x : Int32) : cI l yX3_boothsInState (.code yX3_boothsInState cX3_boothsInState 4 (some .int)) ({ frames := 0, cells := 0, slots := 0, locals := 0 }) D [] [(h0, .inr (3, [.ref cu, .ref rv, .ref bt, .int 0, .int ho, .int fe]))] xT [.ref h0, .int x] (S := Unit) (fun r _ => r = 0) (fun _ => []) (fun _ => [(h0, .inr (3, [.ref cu, .ref rv, .ref bt, .int 0, .int ho, .int fe]))]) := by
  intro sz
  refine Met.ofW (cc := cX3_boothsInState) (maxL := 4) (ret := (some .int)) (by decide) rfl ?_
  intro p e s m args below meth c s₁ B hml hv
  obtain ⟨rfl, hsz, hP, hK, hD0, hX⟩ := hv
  have hx := B.exec
  have hb := B.bytes
  have hr := B.returns
  have hts0 := atoms_spec (ws := .code yX3_boothsInState cX3_boothsInState 4 (some .int) :: gw) B.pre
  have hts := fun (w : Cond) (h : w ∈ gw) => hts0 w (List.mem_cons_of_mem _ h)
  have hown : s.vm.findClass RX3 = some m.cls := findClass_of_methodNamed B.named
  have hlocks := B.notSynchronized
  have F : mFix p s m _ c cX3_boothsInState 4 RX3 := ⟨hx, hb, hml, hown, hts⟩
  subst hsz
  have hD := hD0.self (sz := s.heap.size)
  generalize hAe : va_A [(h0, .inr (3, [.ref cu, .ref rv, .ref bt, .int 0, .int ho, .int fe]))] s.heap.size = A at hD hX ⊢
  have hA : ∀ q : Nat, s.heap.size ≤ q → A q := fun q h => by rw [← hAe]; exact Or.inr h
  have hS : va_S A s.heap s.heap [] := va_S.rf
  have hl := lv_entry ([.ref h0, .int x]) (n := 4) (Nat.le_of_ble_eq_true rfl)
  rw [lg_entry_eq]
  generalize (lg_sl ([.ref h0, .int x]) ++ List.replicate (4 - (lg_sl ([.ref h0, .int x])).length) Slot.unset).toArray = ls at hl ⊢
  have hl : lv_has ls 4 [(0, .ref h0), (1, .int x)] := hl
  have hP : va_P D vwCl [(h0, .inr (3, [.ref cu, .ref rv, .ref bt, .int 0, .int ho, .int fe]))] s.heap := hP
  refine lv_iconst (v := 0) hx hb dX3_boothsInState_0 (by decide) ?_
  refine lv_istore_n (lv' := [(2, .int 0), (0, .ref h0), (1, .int x)]) hx hb dX3_boothsInState_1 rfl hl (by decide) rfl (fun ls hl => ?_)
  refine lv_iconst (v := 0) hx hb dX3_boothsInState_2 (by decide) ?_
  refine lv_istore_n (lv' := [(3, .int 0), (2, .int 0), (0, .ref h0), (1, .int x)]) hx hb dX3_boothsInState_3 rfl hl (by decide) rfl (fun ls hl => ?_)
  refine lv_iload_n hx hb dX3_boothsInState_4 rfl (lv_at hl 0 rfl) ?_
  refine lv_aload_n hx hb dX3_boothsInState_5 rfl (lv_at hl 2 rfl) ?_
  refine va_get (D := D) (ci := 3) (v := .int 0) (C := RX3) (T := TX3) (N := 6) hx hb hts inG_X3 hown hK hP 0 rfl rfl 3 (by decide) (hts _ kw_1_226) (fun _ h9 => h9) rfl dX3_boothsInState_6 ?_
  refine lv_icmp_ge (tgt := 40) hx hb dX3_boothsInState_9 (by decide) (fun c_1 => ?_) (fun c_1 => absurd c_1 (by decide))
  refine lv_iload_n hx hb dX3_boothsInState_40 rfl (lv_at hl 1 rfl) ?_
  have hP9 := hP.sub (ws' := [(h0, .inr (3, [.ref cu, .ref rv, .ref bt, .int 0, .int ho, .int fe]))]) [0] rfl
  have hD9 := hD.sub (ws' := [(h0, .inr (3, [.ref cu, .ref rv, .ref bt, .int 0, .int ho, .int fe]))]) [0] (by decide) rfl
  have hK9 := hK.sub (tys' := []) [] rfl
  refine W.widen (k := 0) (n := 0) (by decide) (by decide) ?_
  exact W.iret (v := 0) hx hb hr (fun t ht hW => ⟨⟨0, (), rfl, rfl, by rw [ht]; exact hP9, va_K.moved hW.alike hK9, hD9⟩, hS.F ht⟩) hS.2.2 dX3_boothsInState_41
theorem dX3_boothsToMove_0 : decode cX3_boothsToMove 0 = .ok (.iconst 0, 1) := by decide +kernel
theorem dX3_boothsToMove_1 : decode cX3_boothsToMove 1 = .ok (.istore_n 1, 1) := by decide +kernel
theorem dX3_boothsToMove_2 : decode cX3_boothsToMove 2 = .ok (.iconst 0, 1) := by decide +kernel
theorem dX3_boothsToMove_3 : decode cX3_boothsToMove 3 = .ok (.istore_n 2, 1) := by decide +kernel
theorem dX3_boothsToMove_4 : decode cX3_boothsToMove 4 = .ok (.iload_n 2, 1) := by decide +kernel
theorem dX3_boothsToMove_5 : decode cX3_boothsToMove 5 = .ok (.aload_n 0, 1) := by decide +kernel
theorem dX3_boothsToMove_6 : decode cX3_boothsToMove 6 = .ok (.getfield 36, 3) := by decide +kernel
theorem dX3_boothsToMove_9 : decode cX3_boothsToMove 9 = .ok (.if_icmp .ge 31, 3) := by decide +kernel
theorem dX3_boothsToMove_40 : decode cX3_boothsToMove 40 = .ok (.iload_n 1, 1) := by decide +kernel
theorem dX3_boothsToMove_41 : decode cX3_boothsToMove 41 = .ok (.ireturn, 1) := by decide +kernel
set_option maxHeartbeats 4000000 in
set_option maxRecDepth 100000 in
theorem c_toMove0 (l : Launch) (D : va_G) (h0 : Nat) (cu : Nat) (rv : Nat) (bt : Nat) (ho : Int32) (fe : Int32) : cI l yX3_boothsToMove (.code yX3_boothsToMove cX3_boothsToMove 3 (some .int)) ({ frames := 3, cells := 0, slots := 0, locals := 68 }) D [] [(h0, .inr (3, [.ref cu, .ref rv, .ref bt, .int 0, .int ho, .int fe]))] xT [.ref h0] (S := Unit) (fun r _ => r = 0) (fun _ => []) (fun _ => [(h0, .inr (3, [.ref cu, .ref rv, .ref bt, .int 0, .int ho, .int fe]))]) := by
  intro sz
  refine Met.ofW (cc := cX3_boothsToMove) (maxL := 3) (ret := (some .int)) (by decide) rfl ?_
  intro p e s m args below meth c s₁ B hml hv
  obtain ⟨rfl, hsz, hP, hK, hD0, hX⟩ := hv
  have hx := B.exec
  have hb := B.bytes
  have hr := B.returns
  have hts0 := atoms_spec (ws := .code yX3_boothsToMove cX3_boothsToMove 3 (some .int) :: gw) B.pre
  have hts := fun (w : Cond) (h : w ∈ gw) => hts0 w (List.mem_cons_of_mem _ h)
  have hown : s.vm.findClass RX3 = some m.cls := findClass_of_methodNamed B.named
  have hlocks := B.notSynchronized
  have F : mFix p s m _ c cX3_boothsToMove 3 RX3 := ⟨hx, hb, hml, hown, hts⟩
  subst hsz
  have hD := hD0.self (sz := s.heap.size)
  generalize hAe : va_A [(h0, .inr (3, [.ref cu, .ref rv, .ref bt, .int 0, .int ho, .int fe]))] s.heap.size = A at hD hX ⊢
  have hA : ∀ q : Nat, s.heap.size ≤ q → A q := fun q h => by rw [← hAe]; exact Or.inr h
  have hS : va_S A s.heap s.heap [] := va_S.rf
  have hl := lv_entry ([.ref h0]) (n := 3) (Nat.le_of_ble_eq_true rfl)
  rw [lg_entry_eq]
  generalize (lg_sl ([.ref h0]) ++ List.replicate (3 - (lg_sl ([.ref h0])).length) Slot.unset).toArray = ls at hl ⊢
  have hl : lv_has ls 3 [(0, .ref h0)] := hl
  have hP : va_P D vwCl [(h0, .inr (3, [.ref cu, .ref rv, .ref bt, .int 0, .int ho, .int fe]))] s.heap := hP
  refine lv_iconst (v := 0) hx hb dX3_boothsToMove_0 (by decide) ?_
  refine lv_istore_n (lv' := [(1, .int 0), (0, .ref h0)]) hx hb dX3_boothsToMove_1 rfl hl (by decide) rfl (fun ls hl => ?_)
  refine lv_iconst (v := 0) hx hb dX3_boothsToMove_2 (by decide) ?_
  refine lv_istore_n (lv' := [(2, .int 0), (1, .int 0), (0, .ref h0)]) hx hb dX3_boothsToMove_3 rfl hl (by decide) rfl (fun ls hl => ?_)
  refine lv_iload_n hx hb dX3_boothsToMove_4 rfl (lv_at hl 0 rfl) ?_
  refine lv_aload_n hx hb dX3_boothsToMove_5 rfl (lv_at hl 2 rfl) ?_
  refine va_get (D := D) (ci := 3) (v := .int 0) (C := RX3) (T := TX3) (N := 6) hx hb hts inG_X3 hown hK hP 0 rfl rfl 3 (by decide) (hts _ kw_1_226) (fun _ h9 => h9) rfl dX3_boothsToMove_6 ?_
  refine lv_icmp_ge (tgt := 40) hx hb dX3_boothsToMove_9 (by decide) (fun c_1 => ?_) (fun c_1 => absurd c_1 (by decide))
  refine lv_iload_n hx hb dX3_boothsToMove_40 rfl (lv_at hl 1 rfl) ?_
  have hP9 := hP.sub (ws' := [(h0, .inr (3, [.ref cu, .ref rv, .ref bt, .int 0, .int ho, .int fe]))]) [0] rfl
  have hD9 := hD.sub (ws' := [(h0, .inr (3, [.ref cu, .ref rv, .ref bt, .int 0, .int ho, .int fe]))]) [0] (by decide) rfl
  have hK9 := hK.sub (tys' := []) [] rfl
  refine W.widen (k := 0) (n := 0) (by decide) (by decide) ?_
  exact W.iret (v := 0) hx hb hr (fun t ht hW => ⟨⟨0, (), rfl, rfl, by rw [ht]; exact hP9, va_K.moved hW.alike hK9, hD9⟩, hS.F ht⟩) hS.2.2 dX3_boothsToMove_41
theorem dX6_crackCount_4 : decode cX6_crackCount 4 = .ok (.iload_n 2, 1) := by decide +kernel
theorem dX6_crackCount_5 : decode cX6_crackCount 5 = .ok (.bipush 100, 2) := by decide +kernel
theorem dX6_crackCount_7 : decode cX6_crackCount 7 = .ok (.if_icmp .ge 21, 3) := by decide +kernel
theorem dX6_crackCount_10 : decode cX6_crackCount 10 = .ok (.aload_n 0, 1) := by decide +kernel
theorem dX6_crackCount_11 : decode cX6_crackCount 11 = .ok (.getfield 24, 3) := by decide +kernel
theorem dX6_crackCount_14 : decode cX6_crackCount 14 = .ok (.iload_n 2, 1) := by decide +kernel
theorem dX6_crackCount_15 : decode cX6_crackCount 15 = .ok (.baload, 1) := by decide +kernel
theorem dX6_crackCount_16 : decode cX6_crackCount 16 = .ok (.ifCond .eq 6, 3) := by decide +kernel
theorem dX6_crackCount_22 : decode cX6_crackCount 22 = .ok (.iinc 2 1, 3) := by decide +kernel
theorem dX6_crackCount_25 : decode cX6_crackCount 25 = .ok (.goto (-21), 3) := by decide +kernel
set_option maxHeartbeats 4000000 in
set_option maxRecDepth 100000 in
theorem lp_crackCount0 {p : Program} {l : Launch} {e : Env} {s : State} {m : MethodId} {args : Array Value} {below : List Frame} {meth : Method} {c : Code} {Q : State → Prop} {A : Nat → Prop} {D : va_G} (F : mFix p s m args c cX6_crackCount 3 RX6) (hA : ∀ q, s.heap.size ≤ q → A q) (h0 : Nat) (q1 : Nat) (q2 : Nat) (q3 : Nat) (q4 : Nat) (q5 : Nat) (q6 : Nat) (cy5 : ClassId) (w0 : Int32) (h9 : Int32) (hK : va_K D vwCl [(cy5, .boolean)] s)
    (kx_28 : ∀ (H : Heap) (locs : List Loc), va_P D vwCl [(h0, .inr (5, [.int w0, .int h9, .ref q1, .ref q2, .ref q3, .ref q4, .ref q5, .ref q6])), (q5, .inl (cy5, 100, .inl (fun _ => 0)))] H → va_D A [(h0, .inr (5, [.int w0, .int h9, .ref q1, .ref q2, .ref q3, .ref q4, .ref q5, .ref q6])), (q5, .inl (cy5, 100, .inl (fun _ => 0)))] → va_S A s.heap H locs → ∀ ls : Array Slot, lv_has ls 3 [(1, .int 0)] → W p l e ({ frames := 0, cells := 0, slots := 0, locals := 0 }) s m args below meth c H locs 0 0 Q (F0 m 28 ls [])) :
    ∀ n : Nat, ∀ (i : Nat), (i ≤ 100) → (100 - i) < n → ∀ (H : Heap) (locs : List Loc), va_P D vwCl [(h0, .inr (5, [.int w0, .int h9, .ref q1, .ref q2, .ref q3, .ref q4, .ref q5, .ref q6])), (q5, .inl (cy5, 100, .inl (fun _ => 0)))] H → va_D A [(h0, .inr (5, [.int w0, .int h9, .ref q1, .ref q2, .ref q3, .ref q4, .ref q5, .ref q6])), (q5, .inl (cy5, 100, .inl (fun _ => 0)))] → va_S A s.heap H locs → ∀ ls : Array Slot, lv_has ls 3 [(0, .ref h0), (1, .int 0), (2, .int (nI i))] → W p l e ({ frames := 0, cells := 0, slots := 0, locals := 0 }) s m args below meth c H locs 0 0 Q (F0 m 4 ls []) := by
  intro n
  induction n with
  | zero => intro i hi hn; exact absurd hn (Nat.not_lt_zero _)
  | succ n ih =>
    intro i hi hn H locs hP hD hS ls hl
    obtain ⟨hx, hb, hml, hown, hts⟩ := id F
    refine lv_iload_n hx hb dX6_crackCount_4 rfl (lv_at hl 2 rfl) ?_
    refine lv_bipush (v := 100) hx hb dX6_crackCount_5 (by decide) ?_
    refine lv_icmp_ge (tgt := 28) hx hb dX6_crackCount_7 (by decide) (fun c_1 => ?_) (fun c_1 => ?_)
    · skip
      have c_1n : 100 ≤ i := (nI_leI (by omega) (by omega)).mp c_1
      have c_1 := Int32.not_lt.mpr c_1
      exact kx_28   H locs (hP.sub [0, 1] rfl) (hD.sub [0, 1] (by decide) rfl) hS ls (lv_sub hl [1] rfl)
    · skip
      have c_1n : i < 100 := nb_le (by omega) (by omega) c_1
      have c_1 := Int32.not_le.mp c_1
      refine lv_aload_n hx hb dX6_crackCount_10 rfl (lv_at hl 0 rfl) ?_
      refine va_get (D := D) (ci := 5) (v := .ref q5) (C := RX6) (T := TX6) (N := 8) hx hb hts inG_X6 hown hK hP 0 rfl rfl 6 (by decide) (hts _ kw_1_157) (fun _ h9 => h9) rfl dX6_crackCount_11 ?_
      refine lv_iload_n hx hb dX6_crackCount_14 rfl (lv_at hl 2 rfl) ?_
      refine m_zald hx hb hK hP 1 0 rfl rfl i rfl (by omega) (by decide) dX6_crackCount_15 ?_
      refine lv_if_eq (tgt := 22) hx hb dX6_crackCount_16 (by decide) (fun c_2 => ?_) (fun c_2 => absurd c_2 (by decide))
      refine lv_iinc (v := nI (i + 1)) (lv' := [(2, .int (nI (i + 1))), (0, .ref h0), (1, .int 0)]) hx hb dX6_crackCount_22 hl (k := 2) rfl (nI_add i 1) (by decide) rfl (fun ls hl => ?_)
      refine lv_goto (tgt := 4) hx hb dX6_crackCount_25 (by decide) ?_
      exact ih (i + 1) (by omega) (by omega) H locs (hP.sub [0, 1] rfl) (hD.sub [0, 1] (by decide) rfl) hS ls (lv_sub hl [1, 2, 0] rfl)
theorem dX6_crackCount_0 : decode cX6_crackCount 0 = .ok (.iconst 0, 1) := by decide +kernel
theorem dX6_crackCount_1 : decode cX6_crackCount 1 = .ok (.istore_n 1, 1) := by decide +kernel
theorem dX6_crackCount_2 : decode cX6_crackCount 2 = .ok (.iconst 0, 1) := by decide +kernel
theorem dX6_crackCount_3 : decode cX6_crackCount 3 = .ok (.istore_n 2, 1) := by decide +kernel
theorem dX6_crackCount_28 : decode cX6_crackCount 28 = .ok (.iload_n 1, 1) := by decide +kernel
theorem dX6_crackCount_29 : decode cX6_crackCount 29 = .ok (.ireturn, 1) := by decide +kernel
set_option maxHeartbeats 4000000 in
set_option maxRecDepth 100000 in
theorem c_crackCount0 (l : Launch) (D : va_G) (h0 : Nat) (q1 : Nat) (q2 : Nat) (q3 : Nat) (q4 : Nat) (q5 : Nat) (q6 : Nat) (cy5 : ClassId) (w0 : Int32) (h9 : Int32) : cI l yX6_crackCount (.code yX6_crackCount cX6_crackCount 3 (some .int)) ({ frames := 0, cells := 0, slots := 0, locals := 0 }) D [(cy5, .boolean)] [(h0, .inr (5, [.int w0, .int h9, .ref q1, .ref q2, .ref q3, .ref q4, .ref q5, .ref q6])), (q5, .inl (cy5, 100, .inl (fun _ => 0)))] xT [.ref h0] (S := Unit) (fun r _ => r = 0) (fun _ => []) (fun _ => [(h0, .inr (5, [.int w0, .int h9, .ref q1, .ref q2, .ref q3, .ref q4, .ref q5, .ref q6])), (q5, .inl (cy5, 100, .inl (fun _ => 0)))]) := by
  intro sz
  refine Met.ofW (cc := cX6_crackCount) (maxL := 3) (ret := (some .int)) (by decide) rfl ?_
  intro p e s m args below meth c s₁ B hml hv
  obtain ⟨rfl, hsz, hP, hK, hD0, hX⟩ := hv
  have hx := B.exec
  have hb := B.bytes
  have hr := B.returns
  have hts0 := atoms_spec (ws := .code yX6_crackCount cX6_crackCount 3 (some .int) :: gw) B.pre
  have hts := fun (w : Cond) (h : w ∈ gw) => hts0 w (List.mem_cons_of_mem _ h)
  have hown : s.vm.findClass RX6 = some m.cls := findClass_of_methodNamed B.named
  have hlocks := B.notSynchronized
  have F : mFix p s m _ c cX6_crackCount 3 RX6 := ⟨hx, hb, hml, hown, hts⟩
  subst hsz
  have hD := hD0.self (sz := s.heap.size)
  generalize hAe : va_A [(h0, .inr (5, [.int w0, .int h9, .ref q1, .ref q2, .ref q3, .ref q4, .ref q5, .ref q6])), (q5, .inl (cy5, 100, .inl (fun _ => 0)))] s.heap.size = A at hD hX ⊢
  have hA : ∀ q : Nat, s.heap.size ≤ q → A q := fun q h => by rw [← hAe]; exact Or.inr h
  have hS : va_S A s.heap s.heap [] := va_S.rf
  have hl := lv_entry ([.ref h0]) (n := 3) (Nat.le_of_ble_eq_true rfl)
  rw [lg_entry_eq]
  generalize (lg_sl ([.ref h0]) ++ List.replicate (3 - (lg_sl ([.ref h0])).length) Slot.unset).toArray = ls at hl ⊢
  have hl : lv_has ls 3 [(0, .ref h0)] := hl
  have hP : va_P D vwCl [(h0, .inr (5, [.int w0, .int h9, .ref q1, .ref q2, .ref q3, .ref q4, .ref q5, .ref q6])), (q5, .inl (cy5, 100, .inl (fun _ => 0)))] s.heap := hP
  refine lv_iconst (v := 0) hx hb dX6_crackCount_0 (by decide) ?_
  refine lv_istore_n (lv' := [(1, .int 0), (0, .ref h0)]) hx hb dX6_crackCount_1 rfl hl (by decide) rfl (fun ls hl => ?_)
  refine lv_iconst (v := 0) hx hb dX6_crackCount_2 (by decide) ?_
  refine lv_istore_n (lv' := [(2, .int 0), (1, .int 0), (0, .ref h0)]) hx hb dX6_crackCount_3 rfl hl (by decide) rfl (fun ls hl => ?_)
  refine lp_crackCount0 F hA h0 q1 q2 q3 q4 q5 q6 cy5 w0 h9 (hK.sub [0] rfl) (fun   H locs hP hD hS ls hl => ?_) _ 0 (by omega) (Nat.lt_succ_self _) _ _ (hP.sub [0, 1] rfl) (hD.sub [0, 1] (by decide) rfl) hS ls (lv_sub hl [2, 1, 0] rfl)
  refine lv_iload_n hx hb dX6_crackCount_28 rfl (lv_at hl 0 rfl) ?_
  have hP9 := hP.sub (ws' := [(h0, .inr (5, [.int w0, .int h9, .ref q1, .ref q2, .ref q3, .ref q4, .ref q5, .ref q6])), (q5, .inl (cy5, 100, .inl (fun _ => 0)))]) [0, 1] rfl
  have hD9 := hD.sub (ws' := [(h0, .inr (5, [.int w0, .int h9, .ref q1, .ref q2, .ref q3, .ref q4, .ref q5, .ref q6])), (q5, .inl (cy5, 100, .inl (fun _ => 0)))]) [0, 1] (by decide) rfl
  have hK9 := hK.sub (tys' := []) [] rfl
  refine W.widen (k := 0) (n := 0) (by decide) (by decide) ?_
  exact W.iret (v := 0) hx hb hr (fun t ht hW => ⟨⟨0, (), rfl, rfl, by rw [ht]; exact hP9, va_K.moved hW.alike hK9, hD9⟩, hS.F ht⟩) hS.2.2 dX6_crackCount_29
theorem dX9_count_0 : decode cX9_count 0 = .ok (.iload_n 1, 1) := by decide +kernel
theorem dX9_count_1 : decode cX9_count 1 = .ok (.tableswitch 131 0 8 #[51, 59, 68, 77, 88, 96, 104, 112, 123], 51) := by decide +kernel
theorem dX9_count_52 : decode cX9_count 52 = .ok (.aload_n 0, 1) := by decide +kernel
theorem dX9_count_53 : decode cX9_count 53 = .ok (.getfield 33, 3) := by decide +kernel
theorem kw_1_229 : Cond.fieldLink RX9 199 "IceFair$Fair" "boothCount" "I" ∈ gw := gw_t1 (List.mem_of_getElem? (i := 229) (by decide +kernel)) (by decide +kernel)
theorem dX9_count_56 : decode cX9_count 56 = .ok (.getfield 199, 3) := by decide +kernel
theorem dX9_count_59 : decode cX9_count 59 = .ok (.ireturn, 1) := by decide +kernel
theorem dX9_count_60 : decode cX9_count 60 = .ok (.aload_n 0, 1) := by decide +kernel
theorem dX9_count_61 : decode cX9_count 61 = .ok (.getfield 33, 3) := by decide +kernel
theorem dX9_count_64 : decode cX9_count 64 = .ok (.iconst 1, 1) := by decide +kernel
theorem kw_4_64 : Cond.methodLink RX9 202 yX3_boothsInState ∈ gw := gw_t4 (List.mem_of_getElem? (i := 64) (by decide +kernel)) (by decide +kernel)
theorem kw_4_65 : Cond.instanceMethod yX3_boothsInState ∈ gw := gw_t4 (List.mem_of_getElem? (i := 65) (by decide +kernel)) (by decide +kernel)
theorem kw_4_66 : Cond.selects RX3 yX3_boothsInState yX3_boothsInState ∈ gw := gw_t4 (List.mem_of_getElem? (i := 66) (by decide +kernel)) (by decide +kernel)
theorem kw_4_67 : Cond.code yX3_boothsInState cX3_boothsInState 4 (some .int) ∈ gw := gw_t4 (List.mem_of_getElem? (i := 67) (by decide +kernel)) (by decide +kernel)
theorem gk_X9_202 : GoodIn gw (wsV RX9 202 RX3 yX3_boothsInState (.code yX3_boothsInState cX3_boothsInState 4 (some .int) :: gw)) ∧ (yX3_boothsInState.cls = RX3 ∧ yX3_boothsInState.cls ≠ "java/lang/invoke/MethodHandle" ∧ yX3_boothsInState.cls ≠ "java/lang/invoke/VarHandle" ∧ (parseMethodDescriptor yX3_boothsInState.desc).map (fun d => d.parameters.length) = some 1) := ⟨gi_V kw_4_64 kw_4_65 kw_4_66 kw_1_6 kw_4_67, by decide +kernel⟩
theorem dX9_count_65 : decode cX9_count 65 = .ok (.invokevirtual 202, 3) := by decide +kernel
theorem dX9_count_68 : decode cX9_count 68 = .ok (.ireturn, 1) := by decide +kernel
theorem dX9_count_69 : decode cX9_count 69 = .ok (.aload_n 0, 1) := by decide +kernel
theorem dX9_count_70 : decode cX9_count 70 = .ok (.getfield 33, 3) := by decide +kernel
theorem dX9_count_73 : decode cX9_count 73 = .ok (.iconst 2, 1) := by decide +kernel
theorem dX9_count_74 : decode cX9_count 74 = .ok (.invokevirtual 202, 3) := by decide +kernel
theorem dX9_count_77 : decode cX9_count 77 = .ok (.ireturn, 1) := by decide +kernel
theorem dX9_count_78 : decode cX9_count 78 = .ok (.aload_n 0, 1) := by decide +kernel
theorem dX9_count_79 : decode cX9_count 79 = .ok (.getfield 33, 3) := by decide +kernel
theorem dX9_count_82 : decode cX9_count 82 = .ok (.getfield 84, 3) := by decide +kernel
theorem kw_4_68 : Cond.methodLink RX9 205 yX6_crackCount ∈ gw := gw_t4 (List.mem_of_getElem? (i := 68) (by decide +kernel)) (by decide +kernel)
theorem kw_4_69 : Cond.instanceMethod yX6_crackCount ∈ gw := gw_t4 (List.mem_of_getElem? (i := 69) (by decide +kernel)) (by decide +kernel)
theorem kw_4_70 : Cond.selects RX6 yX6_crackCount yX6_crackCount ∈ gw := gw_t4 (List.mem_of_getElem? (i := 70) (by decide +kernel)) (by decide +kernel)
theorem kw_4_71 : Cond.code yX6_crackCount cX6_crackCount 3 (some .int) ∈ gw := gw_t4 (List.mem_of_getElem? (i := 71) (by decide +kernel)) (by decide +kernel)
theorem gk_X9_205 : GoodIn gw (wsV RX9 205 RX6 yX6_crackCount (.code yX6_crackCount cX6_crackCount 3 (some .int) :: gw)) ∧ (yX6_crackCount.cls = RX6 ∧ yX6_crackCount.cls ≠ "java/lang/invoke/MethodHandle" ∧ yX6_crackCount.cls ≠ "java/lang/invoke/VarHandle" ∧ (parseMethodDescriptor yX6_crackCount.desc).map (fun d => d.parameters.length) = some 0) := ⟨gi_V kw_4_68 kw_4_69 kw_4_70 kw_1_7 kw_4_71, by decide +kernel⟩
theorem dX9_count_85 : decode cX9_count 85 = .ok (.invokevirtual 205, 3) := by decide +kernel
theorem dX9_count_88 : decode cX9_count 88 = .ok (.ireturn, 1) := by decide +kernel
theorem dX9_count_89 : decode cX9_count 89 = .ok (.aload_n 0, 1) := by decide +kernel
theorem dX9_count_90 : decode cX9_count 90 = .ok (.getfield 33, 3) := by decide +kernel
theorem kw_1_231 : Cond.fieldLink RX9 208 "IceFair$Fair" "hours" "I" ∈ gw := gw_t1 (List.mem_of_getElem? (i := 231) (by decide +kernel)) (by decide +kernel)
theorem dX9_count_93 : decode cX9_count 93 = .ok (.getfield 208, 3) := by decide +kernel
theorem dX9_count_96 : decode cX9_count 96 = .ok (.ireturn, 1) := by decide +kernel
theorem dX9_count_97 : decode cX9_count 97 = .ok (.aload_n 0, 1) := by decide +kernel
theorem dX9_count_98 : decode cX9_count 98 = .ok (.getfield 33, 3) := by decide +kernel
theorem kw_1_233 : Cond.fieldLink RX9 211 "IceFair$Fair" "fees" "I" ∈ gw := gw_t1 (List.mem_of_getElem? (i := 233) (by decide +kernel)) (by decide +kernel)
theorem dX9_count_101 : decode cX9_count 101 = .ok (.getfield 211, 3) := by decide +kernel
theorem dX9_count_104 : decode cX9_count 104 = .ok (.ireturn, 1) := by decide +kernel
theorem dX9_count_105 : decode cX9_count 105 = .ok (.aload_n 0, 1) := by decide +kernel
theorem dX9_count_106 : decode cX9_count 106 = .ok (.getfield 40, 3) := by decide +kernel
theorem kw_2_14 : Cond.fieldLink RX9 214 "IceFair$Laying" "looks" "I" ∈ gw := gw_t2 (List.mem_of_getElem? (i := 14) (by decide +kernel)) (by decide +kernel)
theorem dX9_count_109 : decode cX9_count 109 = .ok (.getfield 214, 3) := by decide +kernel
theorem dX9_count_112 : decode cX9_count 112 = .ok (.ireturn, 1) := by decide +kernel
theorem dX9_count_113 : decode cX9_count 113 = .ok (.aload_n 0, 1) := by decide +kernel
theorem dX9_count_114 : decode cX9_count 114 = .ok (.getfield 33, 3) := by decide +kernel
theorem dX9_count_117 : decode cX9_count 117 = .ok (.getfield 67, 3) := by decide +kernel
theorem kw_1_109 : Cond.fieldLink RX9 217 "IceFair$Customs" "stairCount" "I" ∈ gw := gw_t1 (List.mem_of_getElem? (i := 109) (by decide +kernel)) (by decide +kernel)
theorem dX9_count_120 : decode cX9_count 120 = .ok (.getfield 217, 3) := by decide +kernel
theorem dX9_count_123 : decode cX9_count 123 = .ok (.ireturn, 1) := by decide +kernel
theorem dX9_count_124 : decode cX9_count 124 = .ok (.aload_n 0, 1) := by decide +kernel
theorem dX9_count_125 : decode cX9_count 125 = .ok (.getfield 33, 3) := by decide +kernel
theorem kw_4_72 : Cond.methodLink RX9 220 yX3_boothsToMove ∈ gw := gw_t4 (List.mem_of_getElem? (i := 72) (by decide +kernel)) (by decide +kernel)
theorem kw_4_73 : Cond.instanceMethod yX3_boothsToMove ∈ gw := gw_t4 (List.mem_of_getElem? (i := 73) (by decide +kernel)) (by decide +kernel)
theorem kw_4_74 : Cond.selects RX3 yX3_boothsToMove yX3_boothsToMove ∈ gw := gw_t4 (List.mem_of_getElem? (i := 74) (by decide +kernel)) (by decide +kernel)
theorem kw_4_75 : Cond.code yX3_boothsToMove cX3_boothsToMove 3 (some .int) ∈ gw := gw_t4 (List.mem_of_getElem? (i := 75) (by decide +kernel)) (by decide +kernel)
theorem gk_X9_220 : GoodIn gw (wsV RX9 220 RX3 yX3_boothsToMove (.code yX3_boothsToMove cX3_boothsToMove 3 (some .int) :: gw)) ∧ (yX3_boothsToMove.cls = RX3 ∧ yX3_boothsToMove.cls ≠ "java/lang/invoke/MethodHandle" ∧ yX3_boothsToMove.cls ≠ "java/lang/invoke/VarHandle" ∧ (parseMethodDescriptor yX3_boothsToMove.desc).map (fun d => d.parameters.length) = some 0) := ⟨gi_V kw_4_72 kw_4_73 kw_4_74 kw_1_6 kw_4_75, by decide +kernel⟩
theorem dX9_count_128 : decode cX9_count 128 = .ok (.invokevirtual 220, 3) := by decide +kernel
theorem dX9_count_131 : decode cX9_count 131 = .ok (.ireturn, 1) := by decide +kernel
theorem dX9_count_132 : decode cX9_count 132 = .ok (.iconst (-1), 1) := by decide +kernel
theorem dX9_count_133 : decode cX9_count 133 = .ok (.ireturn, 1) := by decide +kernel
set_option maxHeartbeats 4000000 in
set_option maxRecDepth 100000 in
theorem c_count (l : Launch) (D : va_G) (h0 : Nat) (tp : Nat) (rd : Nat) (dr : Nat) (fa : Nat) (ly : Nat) (wy : Nat) (cu : Nat) (rv : Nat) (bt : Nat) (cu1 : Nat) (cu2 : Nat) (cu3 : Nat) (cu4 : Nat) (rv1 : Nat) (rv2 : Nat) (rv3 : Nat) (rv4 : Nat) (rv5 : Nat) (rv6 : Nat) (ly1 : Nat) (ly2 : Nat) (ly3 : Nat) (ly4 : Nat) (ly5 : Nat) (rc5 : ClassId) (w : Int32) : cI l yX9_count (.code yX9_count cX9_count 2 (some .int)) ({ frames := 4, cells := 0, slots := 0, locals := 90 }) D [(rc5, .boolean)] [(h0, .inr (8, [.ref tp, .ref rd, .ref dr, .ref fa, .ref ly, .ref wy])), (fa, .inr (3, [.ref cu, .ref rv, .ref bt, .int 0, .int 0, .int 0])), (cu, .inr (1, [.ref cu1, .ref cu2, .ref cu3, .ref cu4, .int 0, .int 0])), (rv, .inr (5, [.int 5, .int 5, .ref rv1, .ref rv2, .ref rv3, .ref rv4, .ref rv5, .ref rv6])), (rv5, .inl (rc5, 100, .inl (fun _ => 0))), (ly, .inr (4, [.int 0, .ref ly1, .int 0, .ref ly2, .ref ly3, .ref ly4, .int 0, .ref ly5, .int 0]))] xT [.ref h0, .int w] (S := Unit) (fun r _ => r = (if w < 0 ∨ 8 < w then (-1) else 0)) (fun _ => []) (fun _ => []) := by
  intro sz
  refine Met.ofW (cc := cX9_count) (maxL := 2) (ret := (some .int)) (by decide) rfl ?_
  intro p e s m args below meth c s₁ B hml hv
  obtain ⟨rfl, hsz, hP, hK, hD0, hX⟩ := hv
  have hx := B.exec
  have hb := B.bytes
  have hr := B.returns
  have hts0 := atoms_spec (ws := .code yX9_count cX9_count 2 (some .int) :: gw) B.pre
  have hts := fun (w : Cond) (h : w ∈ gw) => hts0 w (List.mem_cons_of_mem _ h)
  have hown : s.vm.findClass RX9 = some m.cls := findClass_of_methodNamed B.named
  have hlocks := B.notSynchronized
  have F : mFix p s m _ c cX9_count 2 RX9 := ⟨hx, hb, hml, hown, hts⟩
  subst hsz
  have hD := hD0.self (sz := s.heap.size)
  generalize hAe : va_A [(h0, .inr (8, [.ref tp, .ref rd, .ref dr, .ref fa, .ref ly, .ref wy])), (fa, .inr (3, [.ref cu, .ref rv, .ref bt, .int 0, .int 0, .int 0])), (cu, .inr (1, [.ref cu1, .ref cu2, .ref cu3, .ref cu4, .int 0, .int 0])), (rv, .inr (5, [.int 5, .int 5, .ref rv1, .ref rv2, .ref rv3, .ref rv4, .ref rv5, .ref rv6])), (rv5, .inl (rc5, 100, .inl (fun _ => 0))), (ly, .inr (4, [.int 0, .ref ly1, .int 0, .ref ly2, .ref ly3, .ref ly4, .int 0, .ref ly5, .int 0]))] s.heap.size = A at hD hX ⊢
  have hA : ∀ q : Nat, s.heap.size ≤ q → A q := fun q h => by rw [← hAe]; exact Or.inr h
  have hS : va_S A s.heap s.heap [] := va_S.rf
  have hl := lv_entry ([.ref h0, .int w]) (n := 2) (Nat.le_of_ble_eq_true rfl)
  rw [lg_entry_eq]
  generalize (lg_sl ([.ref h0, .int w]) ++ List.replicate (2 - (lg_sl ([.ref h0, .int w])).length) Slot.unset).toArray = ls at hl ⊢
  have hl : lv_has ls 2 [(0, .ref h0), (1, .int w)] := hl
  have hP : va_P D vwCl [(h0, .inr (8, [.ref tp, .ref rd, .ref dr, .ref fa, .ref ly, .ref wy])), (fa, .inr (3, [.ref cu, .ref rv, .ref bt, .int 0, .int 0, .int 0])), (cu, .inr (1, [.ref cu1, .ref cu2, .ref cu3, .ref cu4, .int 0, .int 0])), (rv, .inr (5, [.int 5, .int 5, .ref rv1, .ref rv2, .ref rv3, .ref rv4, .ref rv5, .ref rv6])), (rv5, .inl (rc5, 100, .inl (fun _ => 0))), (ly, .inr (4, [.int 0, .ref ly1, .int 0, .ref ly2, .ref ly3, .ref ly4, .int 0, .ref ly5, .int 0]))] s.heap := hP
  refine lv_iload_n hx hb dX9_count_0 rfl (lv_at hl 1 rfl) ?_
  by_cases w_1_0 : w = 0
  · skip
    subst w_1_0
    refine lv_tableIn (tgt := 52) hx hb dX9_count_1 (by decide) (by decide) rfl (by decide) ?_
    have hl : lv_has ls 2 [(0, .ref h0), (1, .int 0)] := hl
    refine lv_aload_n hx hb dX9_count_52 rfl (lv_at hl 0 rfl) ?_
    refine va_get (D := D) (ci := 8) (v := .ref fa) (C := RX9) (T := TX9) (N := 6) hx hb hts inG_X9 hown hK hP 0 rfl rfl 3 (by decide) (hts _ kw_2_70) (fun _ h9 => h9) rfl dX9_count_53 ?_
    refine va_get (D := D) (ci := 3) (v := .int 0) (C := RX3) (T := TX3) (N := 6) hx hb hts inG_X3 hown hK hP 1 rfl rfl 3 (by decide) (hts _ kw_1_229) (fun _ h9 => h9) rfl dX9_count_56 ?_
    have hP9 := hP.sub (ws' := []) [] rfl
    have hD9 := hD.sub (ws' := []) [] (by decide) rfl
    have hK9 := hK.sub (tys' := []) [] rfl
    refine W.widen (k := 0) (n := 0) (by decide) (by decide) ?_
    exact W.iret (v := 0) hx hb hr (fun t ht hW => ⟨⟨0, (), rfl, by decide, by rw [ht]; exact hP9, va_K.moved hW.alike hK9, hD9⟩, hS.F ht⟩) hS.2.2 dX9_count_59
  by_cases w_1_1 : w = 1
  · skip
    subst w_1_1
    refine lv_tableIn (tgt := 60) hx hb dX9_count_1 (by decide) (by decide) rfl (by decide) ?_
    have hl : lv_has ls 2 [(0, .ref h0), (1, .int 1)] := hl
    refine lv_aload_n hx hb dX9_count_60 rfl (lv_at hl 0 rfl) ?_
    refine va_get (D := D) (ci := 8) (v := .ref fa) (C := RX9) (T := TX9) (N := 6) hx hb hts inG_X9 hown hK hP 0 rfl rfl 3 (by decide) (hts _ kw_2_70) (fun _ h9 => h9) rfl dX9_count_61 ?_
    refine lv_iconst (v := 1) hx hb dX9_count_64 (by decide) ?_
    refine mc_Vi (rest := []) (wr := [(h0, .inr (8, [.ref tp, .ref rd, .ref dr, .ref fa, .ref ly, .ref wy])), (cu, .inr (1, [.ref cu1, .ref cu2, .ref cu3, .ref cu4, .int 0, .int 0])), (rv, .inr (5, [.int 5, .int 5, .ref rv1, .ref rv2, .ref rv3, .ref rv4, .ref rv5, .ref rv6])), (rv5, .inl (rc5, 100, .inl (fun _ => 0))), (ly, .inr (4, [.int 0, .ref ly1, .int 0, .ref ly2, .ref ly3, .ref ly4, .int 0, .ref ly5, .int 0]))]) F hK hP hD hS hA (c_inState0 l D fa cu rv bt 0 0 1 ) ⟨gk_X9_202.1, gk_X9_202.2, Nat.le_of_ble_eq_true rfl, Nat.le_of_ble_eq_true rfl⟩ [1] [0, 2, 3, 4, 5] [] ⟨rfl, rfl, rfl, rfl, by decide⟩ rfl xT_move (fun _ _ _ => trivial) 1 rfl rfl rfl hl.1 rfl (Nat.le_of_ble_eq_true rfl) dX9_count_65 ⟨Nat.le_of_ble_eq_true rfl, Nat.le_of_ble_eq_true rfl⟩ (fun r_2 _ H locs hw hK1 hP hD hS => ?_)
    have hP : va_P D vwCl [(h0, .inr (8, [.ref tp, .ref rd, .ref dr, .ref fa, .ref ly, .ref wy])), (cu, .inr (1, [.ref cu1, .ref cu2, .ref cu3, .ref cu4, .int 0, .int 0])), (rv, .inr (5, [.int 5, .int 5, .ref rv1, .ref rv2, .ref rv3, .ref rv4, .ref rv5, .ref rv6])), (rv5, .inl (rc5, 100, .inl (fun _ => 0))), (ly, .inr (4, [.int 0, .ref ly1, .int 0, .ref ly2, .ref ly3, .ref ly4, .int 0, .ref ly5, .int 0])), (fa, .inr (3, [.ref cu, .ref rv, .ref bt, .int 0, .int 0, .int 0]))] H := hP
    have hD : va_D A [(h0, .inr (8, [.ref tp, .ref rd, .ref dr, .ref fa, .ref ly, .ref wy])), (cu, .inr (1, [.ref cu1, .ref cu2, .ref cu3, .ref cu4, .int 0, .int 0])), (rv, .inr (5, [.int 5, .int 5, .ref rv1, .ref rv2, .ref rv3, .ref rv4, .ref rv5, .ref rv6])), (rv5, .inl (rc5, 100, .inl (fun _ => 0))), (ly, .inr (4, [.int 0, .ref ly1, .int 0, .ref ly2, .ref ly3, .ref ly4, .int 0, .ref ly5, .int 0])), (fa, .inr (3, [.ref cu, .ref rv, .ref bt, .int 0, .int 0, .int 0]))] := hD
    have hw_3 : r_2 = 0 := hw
    obtain rfl : r_2 = 0 := hw_3
    have hP9 := hP.sub (ws' := []) [] rfl
    have hD9 := hD.sub (ws' := []) [] (by decide) rfl
    have hK9 := hK.sub (tys' := []) [] rfl
    refine W.widen (k := 0) (n := 0) (by decide) (by decide) ?_
    exact W.iret (v := 0) hx hb hr (fun t ht hW => ⟨⟨0, (), rfl, by decide, by rw [ht]; exact hP9, va_K.moved hW.alike hK9, hD9⟩, hS.F ht⟩) hS.2.2 dX9_count_68
  by_cases w_1_2 : w = 2
  · skip
    subst w_1_2
    refine lv_tableIn (tgt := 69) hx hb dX9_count_1 (by decide) (by decide) rfl (by decide) ?_
    have hl : lv_has ls 2 [(0, .ref h0), (1, .int 2)] := hl
    refine lv_aload_n hx hb dX9_count_69 rfl (lv_at hl 0 rfl) ?_
    refine va_get (D := D) (ci := 8) (v := .ref fa) (C := RX9) (T := TX9) (N := 6) hx hb hts inG_X9 hown hK hP 0 rfl rfl 3 (by decide) (hts _ kw_2_70) (fun _ h9 => h9) rfl dX9_count_70 ?_
    refine lv_iconst (v := 2) hx hb dX9_count_73 (by decide) ?_
    refine mc_Vi (rest := []) (wr := [(h0, .inr (8, [.ref tp, .ref rd, .ref dr, .ref fa, .ref ly, .ref wy])), (cu, .inr (1, [.ref cu1, .ref cu2, .ref cu3, .ref cu4, .int 0, .int 0])), (rv, .inr (5, [.int 5, .int 5, .ref rv1, .ref rv2, .ref rv3, .ref rv4, .ref rv5, .ref rv6])), (rv5, .inl (rc5, 100, .inl (fun _ => 0))), (ly, .inr (4, [.int 0, .ref ly1, .int 0, .ref ly2, .ref ly3, .ref ly4, .int 0, .ref ly5, .int 0]))]) F hK hP hD hS hA (c_inState0 l D fa cu rv bt 0 0 2 ) ⟨gk_X9_202.1, gk_X9_202.2, Nat.le_of_ble_eq_true rfl, Nat.le_of_ble_eq_true rfl⟩ [1] [0, 2, 3, 4, 5] [] ⟨rfl, rfl, rfl, rfl, by decide⟩ rfl xT_move (fun _ _ _ => trivial) 1 rfl rfl rfl hl.1 rfl (Nat.le_of_ble_eq_true rfl) dX9_count_74 ⟨Nat.le_of_ble_eq_true rfl, Nat.le_of_ble_eq_true rfl⟩ (fun r_4 _ H locs hw hK1 hP hD hS => ?_)
    have hP : va_P D vwCl [(h0, .inr (8, [.ref tp, .ref rd, .ref dr, .ref fa, .ref ly, .ref wy])), (cu, .inr (1, [.ref cu1, .ref cu2, .ref cu3, .ref cu4, .int 0, .int 0])), (rv, .inr (5, [.int 5, .int 5, .ref rv1, .ref rv2, .ref rv3, .ref rv4, .ref rv5, .ref rv6])), (rv5, .inl (rc5, 100, .inl (fun _ => 0))), (ly, .inr (4, [.int 0, .ref ly1, .int 0, .ref ly2, .ref ly3, .ref ly4, .int 0, .ref ly5, .int 0])), (fa, .inr (3, [.ref cu, .ref rv, .ref bt, .int 0, .int 0, .int 0]))] H := hP
    have hD : va_D A [(h0, .inr (8, [.ref tp, .ref rd, .ref dr, .ref fa, .ref ly, .ref wy])), (cu, .inr (1, [.ref cu1, .ref cu2, .ref cu3, .ref cu4, .int 0, .int 0])), (rv, .inr (5, [.int 5, .int 5, .ref rv1, .ref rv2, .ref rv3, .ref rv4, .ref rv5, .ref rv6])), (rv5, .inl (rc5, 100, .inl (fun _ => 0))), (ly, .inr (4, [.int 0, .ref ly1, .int 0, .ref ly2, .ref ly3, .ref ly4, .int 0, .ref ly5, .int 0])), (fa, .inr (3, [.ref cu, .ref rv, .ref bt, .int 0, .int 0, .int 0]))] := hD
    have hw_5 : r_4 = 0 := hw
    obtain rfl : r_4 = 0 := hw_5
    have hP9 := hP.sub (ws' := []) [] rfl
    have hD9 := hD.sub (ws' := []) [] (by decide) rfl
    have hK9 := hK.sub (tys' := []) [] rfl
    refine W.widen (k := 0) (n := 0) (by decide) (by decide) ?_
    exact W.iret (v := 0) hx hb hr (fun t ht hW => ⟨⟨0, (), rfl, by decide, by rw [ht]; exact hP9, va_K.moved hW.alike hK9, hD9⟩, hS.F ht⟩) hS.2.2 dX9_count_77
  by_cases w_1_3 : w = 3
  · skip
    subst w_1_3
    refine lv_tableIn (tgt := 78) hx hb dX9_count_1 (by decide) (by decide) rfl (by decide) ?_
    have hl : lv_has ls 2 [(0, .ref h0), (1, .int 3)] := hl
    refine lv_aload_n hx hb dX9_count_78 rfl (lv_at hl 0 rfl) ?_
    refine va_get (D := D) (ci := 8) (v := .ref fa) (C := RX9) (T := TX9) (N := 6) hx hb hts inG_X9 hown hK hP 0 rfl rfl 3 (by decide) (hts _ kw_2_70) (fun _ h9 => h9) rfl dX9_count_79 ?_
    refine va_get (D := D) (ci := 3) (v := .ref rv) (C := RX3) (T := TX3) (N := 6) hx hb hts inG_X3 hown hK hP 1 rfl rfl 1 (by decide) (hts _ kw_1_222) (fun _ h9 => h9) rfl dX9_count_82 ?_
    refine mc_Vi (rest := []) (wr := [(h0, .inr (8, [.ref tp, .ref rd, .ref dr, .ref fa, .ref ly, .ref wy])), (fa, .inr (3, [.ref cu, .ref rv, .ref bt, .int 0, .int 0, .int 0])), (cu, .inr (1, [.ref cu1, .ref cu2, .ref cu3, .ref cu4, .int 0, .int 0])), (ly, .inr (4, [.int 0, .ref ly1, .int 0, .ref ly2, .ref ly3, .ref ly4, .int 0, .ref ly5, .int 0]))]) F hK hP hD hS hA (c_crackCount0 l D rv rv1 rv2 rv3 rv4 rv5 rv6 rc5 5 5 ) ⟨gk_X9_205.1, gk_X9_205.2, Nat.le_of_ble_eq_true rfl, Nat.le_of_ble_eq_true rfl⟩ [3, 4] [0, 1, 2, 5] [0] ⟨rfl, rfl, rfl, rfl, by decide⟩ rfl xT_move (fun _ _ _ => trivial) 3 rfl rfl rfl hl.1 rfl (Nat.le_of_ble_eq_true rfl) dX9_count_85 ⟨Nat.le_of_ble_eq_true rfl, Nat.le_of_ble_eq_true rfl⟩ (fun r_6 _ H locs hw hK1 hP hD hS => ?_)
    have hP : va_P D vwCl [(h0, .inr (8, [.ref tp, .ref rd, .ref dr, .ref fa, .ref ly, .ref wy])), (fa, .inr (3, [.ref cu, .ref rv, .ref bt, .int 0, .int 0, .int 0])), (cu, .inr (1, [.ref cu1, .ref cu2, .ref cu3, .ref cu4, .int 0, .int 0])), (ly, .inr (4, [.int 0, .ref ly1, .int 0, .ref ly2, .ref ly3, .ref ly4, .int 0, .ref ly5, .int 0])), (rv, .inr (5, [.int 5, .int 5, .ref rv1, .ref rv2, .ref rv3, .ref rv4, .ref rv5, .ref rv6])), (rv5, .inl (rc5, 100, .inl (fun _ => 0)))] H := hP
    have hD : va_D A [(h0, .inr (8, [.ref tp, .ref rd, .ref dr, .ref fa, .ref ly, .ref wy])), (fa, .inr (3, [.ref cu, .ref rv, .ref bt, .int 0, .int 0, .int 0])), (cu, .inr (1, [.ref cu1, .ref cu2, .ref cu3, .ref cu4, .int 0, .int 0])), (ly, .inr (4, [.int 0, .ref ly1, .int 0, .ref ly2, .ref ly3, .ref ly4, .int 0, .ref ly5, .int 0])), (rv, .inr (5, [.int 5, .int 5, .ref rv1, .ref rv2, .ref rv3, .ref rv4, .ref rv5, .ref rv6])), (rv5, .inl (rc5, 100, .inl (fun _ => 0)))] := hD
    have hw_7 : r_6 = 0 := hw
    obtain rfl : r_6 = 0 := hw_7
    have hP9 := hP.sub (ws' := []) [] rfl
    have hD9 := hD.sub (ws' := []) [] (by decide) rfl
    have hK9 := hK.sub (tys' := []) [] rfl
    refine W.widen (k := 0) (n := 0) (by decide) (by decide) ?_
    exact W.iret (v := 0) hx hb hr (fun t ht hW => ⟨⟨0, (), rfl, by decide, by rw [ht]; exact hP9, va_K.moved hW.alike hK9, hD9⟩, hS.F ht⟩) hS.2.2 dX9_count_88
  by_cases w_1_4 : w = 4
  · skip
    subst w_1_4
    refine lv_tableIn (tgt := 89) hx hb dX9_count_1 (by decide) (by decide) rfl (by decide) ?_
    have hl : lv_has ls 2 [(0, .ref h0), (1, .int 4)] := hl
    refine lv_aload_n hx hb dX9_count_89 rfl (lv_at hl 0 rfl) ?_
    refine va_get (D := D) (ci := 8) (v := .ref fa) (C := RX9) (T := TX9) (N := 6) hx hb hts inG_X9 hown hK hP 0 rfl rfl 3 (by decide) (hts _ kw_2_70) (fun _ h9 => h9) rfl dX9_count_90 ?_
    refine va_get (D := D) (ci := 3) (v := .int 0) (C := RX3) (T := TX3) (N := 6) hx hb hts inG_X3 hown hK hP 1 rfl rfl 4 (by decide) (hts _ kw_1_231) (fun _ h9 => h9) rfl dX9_count_93 ?_
    have hP9 := hP.sub (ws' := []) [] rfl
    have hD9 := hD.sub (ws' := []) [] (by decide) rfl
    have hK9 := hK.sub (tys' := []) [] rfl
    refine W.widen (k := 0) (n := 0) (by decide) (by decide) ?_
    exact W.iret (v := 0) hx hb hr (fun t ht hW => ⟨⟨0, (), rfl, by decide, by rw [ht]; exact hP9, va_K.moved hW.alike hK9, hD9⟩, hS.F ht⟩) hS.2.2 dX9_count_96
  by_cases w_1_5 : w = 5
  · skip
    subst w_1_5
    refine lv_tableIn (tgt := 97) hx hb dX9_count_1 (by decide) (by decide) rfl (by decide) ?_
    have hl : lv_has ls 2 [(0, .ref h0), (1, .int 5)] := hl
    refine lv_aload_n hx hb dX9_count_97 rfl (lv_at hl 0 rfl) ?_
    refine va_get (D := D) (ci := 8) (v := .ref fa) (C := RX9) (T := TX9) (N := 6) hx hb hts inG_X9 hown hK hP 0 rfl rfl 3 (by decide) (hts _ kw_2_70) (fun _ h9 => h9) rfl dX9_count_98 ?_
    refine va_get (D := D) (ci := 3) (v := .int 0) (C := RX3) (T := TX3) (N := 6) hx hb hts inG_X3 hown hK hP 1 rfl rfl 5 (by decide) (hts _ kw_1_233) (fun _ h9 => h9) rfl dX9_count_101 ?_
    have hP9 := hP.sub (ws' := []) [] rfl
    have hD9 := hD.sub (ws' := []) [] (by decide) rfl
    have hK9 := hK.sub (tys' := []) [] rfl
    refine W.widen (k := 0) (n := 0) (by decide) (by decide) ?_
    exact W.iret (v := 0) hx hb hr (fun t ht hW => ⟨⟨0, (), rfl, by decide, by rw [ht]; exact hP9, va_K.moved hW.alike hK9, hD9⟩, hS.F ht⟩) hS.2.2 dX9_count_104
  by_cases w_1_6 : w = 6
  · skip
    subst w_1_6
    refine lv_tableIn (tgt := 105) hx hb dX9_count_1 (by decide) (by decide) rfl (by decide) ?_
    have hl : lv_has ls 2 [(0, .ref h0), (1, .int 6)] := hl
    refine lv_aload_n hx hb dX9_count_105 rfl (lv_at hl 0 rfl) ?_
    refine va_get (D := D) (ci := 8) (v := .ref ly) (C := RX9) (T := TX9) (N := 6) hx hb hts inG_X9 hown hK hP 0 rfl rfl 4 (by decide) (hts _ kw_2_71) (fun _ h9 => h9) rfl dX9_count_106 ?_
    refine va_get (D := D) (ci := 4) (v := .int 0) (C := RX4) (T := TX4) (N := 9) hx hb hts inG_X4 hown hK hP 5 rfl rfl 0 (by decide) (hts _ kw_2_14) (fun _ h9 => h9) rfl dX9_count_109 ?_
    have hP9 := hP.sub (ws' := []) [] rfl
    have hD9 := hD.sub (ws' := []) [] (by decide) rfl
    have hK9 := hK.sub (tys' := []) [] rfl
    refine W.widen (k := 0) (n := 0) (by decide) (by decide) ?_
    exact W.iret (v := 0) hx hb hr (fun t ht hW => ⟨⟨0, (), rfl, by decide, by rw [ht]; exact hP9, va_K.moved hW.alike hK9, hD9⟩, hS.F ht⟩) hS.2.2 dX9_count_112
  by_cases w_1_7 : w = 7
  · skip
    subst w_1_7
    refine lv_tableIn (tgt := 113) hx hb dX9_count_1 (by decide) (by decide) rfl (by decide) ?_
    have hl : lv_has ls 2 [(0, .ref h0), (1, .int 7)] := hl
    refine lv_aload_n hx hb dX9_count_113 rfl (lv_at hl 0 rfl) ?_
    refine va_get (D := D) (ci := 8) (v := .ref fa) (C := RX9) (T := TX9) (N := 6) hx hb hts inG_X9 hown hK hP 0 rfl rfl 3 (by decide) (hts _ kw_2_70) (fun _ h9 => h9) rfl dX9_count_114 ?_
    refine va_get (D := D) (ci := 3) (v := .ref cu) (C := RX3) (T := TX3) (N := 6) hx hb hts inG_X3 hown hK hP 1 rfl rfl 0 (by decide) (hts _ kw_1_218) (fun _ h9 => h9) rfl dX9_count_117 ?_
    refine va_get (D := D) (ci := 1) (v := .int 0) (C := RX1) (T := TX1) (N := 6) hx hb hts inG_X1 hown hK hP 2 rfl rfl 4 (by decide) (hts _ kw_1_109) (fun _ h9 => h9) rfl dX9_count_120 ?_
    have hP9 := hP.sub (ws' := []) [] rfl
    have hD9 := hD.sub (ws' := []) [] (by decide) rfl
    have hK9 := hK.sub (tys' := []) [] rfl
    refine W.widen (k := 0) (n := 0) (by decide) (by decide) ?_
    exact W.iret (v := 0) hx hb hr (fun t ht hW => ⟨⟨0, (), rfl, by decide, by rw [ht]; exact hP9, va_K.moved hW.alike hK9, hD9⟩, hS.F ht⟩) hS.2.2 dX9_count_123
  by_cases w_1_8 : w = 8
  · skip
    subst w_1_8
    refine lv_tableIn (tgt := 124) hx hb dX9_count_1 (by decide) (by decide) rfl (by decide) ?_
    have hl : lv_has ls 2 [(0, .ref h0), (1, .int 8)] := hl
    refine lv_aload_n hx hb dX9_count_124 rfl (lv_at hl 0 rfl) ?_
    refine va_get (D := D) (ci := 8) (v := .ref fa) (C := RX9) (T := TX9) (N := 6) hx hb hts inG_X9 hown hK hP 0 rfl rfl 3 (by decide) (hts _ kw_2_70) (fun _ h9 => h9) rfl dX9_count_125 ?_
    refine mc_Vi (rest := []) (wr := [(h0, .inr (8, [.ref tp, .ref rd, .ref dr, .ref fa, .ref ly, .ref wy])), (cu, .inr (1, [.ref cu1, .ref cu2, .ref cu3, .ref cu4, .int 0, .int 0])), (rv, .inr (5, [.int 5, .int 5, .ref rv1, .ref rv2, .ref rv3, .ref rv4, .ref rv5, .ref rv6])), (rv5, .inl (rc5, 100, .inl (fun _ => 0))), (ly, .inr (4, [.int 0, .ref ly1, .int 0, .ref ly2, .ref ly3, .ref ly4, .int 0, .ref ly5, .int 0]))]) F hK hP hD hS hA (c_toMove0 l D fa cu rv bt 0 0 ) ⟨gk_X9_220.1, gk_X9_220.2, Nat.le_of_ble_eq_true rfl, Nat.le_of_ble_eq_true rfl⟩ [1] [0, 2, 3, 4, 5] [] ⟨rfl, rfl, rfl, rfl, by decide⟩ rfl xT_move (fun _ _ _ => trivial) 1 rfl rfl rfl hl.1 rfl (Nat.le_of_ble_eq_true rfl) dX9_count_128 ⟨Nat.le_of_ble_eq_true rfl, Nat.le_of_ble_eq_true rfl⟩ (fun r_8 _ H locs hw hK1 hP hD hS => ?_)
    have hP : va_P D vwCl [(h0, .inr (8, [.ref tp, .ref rd, .ref dr, .ref fa, .ref ly, .ref wy])), (cu, .inr (1, [.ref cu1, .ref cu2, .ref cu3, .ref cu4, .int 0, .int 0])), (rv, .inr (5, [.int 5, .int 5, .ref rv1, .ref rv2, .ref rv3, .ref rv4, .ref rv5, .ref rv6])), (rv5, .inl (rc5, 100, .inl (fun _ => 0))), (ly, .inr (4, [.int 0, .ref ly1, .int 0, .ref ly2, .ref ly3, .ref ly4, .int 0, .ref ly5, .int 0])), (fa, .inr (3, [.ref cu, .ref rv, .ref bt, .int 0, .int 0, .int 0]))] H := hP
    have hD : va_D A [(h0, .inr (8, [.ref tp, .ref rd, .ref dr, .ref fa, .ref ly, .ref wy])), (cu, .inr (1, [.ref cu1, .ref cu2, .ref cu3, .ref cu4, .int 0, .int 0])), (rv, .inr (5, [.int 5, .int 5, .ref rv1, .ref rv2, .ref rv3, .ref rv4, .ref rv5, .ref rv6])), (rv5, .inl (rc5, 100, .inl (fun _ => 0))), (ly, .inr (4, [.int 0, .ref ly1, .int 0, .ref ly2, .ref ly3, .ref ly4, .int 0, .ref ly5, .int 0])), (fa, .inr (3, [.ref cu, .ref rv, .ref bt, .int 0, .int 0, .int 0]))] := hD
    have hw_9 : r_8 = 0 := hw
    obtain rfl : r_8 = 0 := hw_9
    have hP9 := hP.sub (ws' := []) [] rfl
    have hD9 := hD.sub (ws' := []) [] (by decide) rfl
    have hK9 := hK.sub (tys' := []) [] rfl
    refine W.widen (k := 0) (n := 0) (by decide) (by decide) ?_
    exact W.iret (v := 0) hx hb hr (fun t ht hW => ⟨⟨0, (), rfl, by decide, by rw [ht]; exact hP9, va_K.moved hW.alike hK9, hD9⟩, hS.F ht⟩) hS.2.2 dX9_count_131
  refine lv_tableOut (tgt := 132) hx hb dX9_count_1 (m_out w (by decide) (by decide) (fun j h1 h2 => ?_)) (by decide) ?_
  · skip
    rcases (show j = 0 ∨ j = 1 ∨ j = 2 ∨ j = 3 ∨ j = 4 ∨ j = 5 ∨ j = 6 ∨ j = 7 ∨ j = 8 by omega) with rfl | rfl | rfl | rfl | rfl | rfl | rfl | rfl | rfl
    · exact w_1_0
    · exact w_1_1
    · exact w_1_2
    · exact w_1_3
    · exact w_1_4
    · exact w_1_5
    · exact w_1_6
    · exact w_1_7
    · exact w_1_8
  refine lv_iconst (v := -1) hx hb dX9_count_132 (by decide) ?_
  have hP9 := hP.sub (ws' := []) [] rfl
  have hD9 := hD.sub (ws' := []) [] (by decide) rfl
  have hK9 := hK.sub (tys' := []) [] rfl
  refine W.widen (k := 0) (n := 0) (by decide) (by decide) ?_
  exact W.iret (v := (-1)) hx hb hr (fun t ht hW => ⟨⟨((-1)), (), rfl, by rw [if_pos (cnt_out w_1_0 w_1_1 w_1_2 w_1_3 w_1_4 w_1_5 w_1_6 w_1_7 w_1_8)], by rw [ht]; exact hP9, va_K.moved hW.alike hK9, hD9⟩, hS.F ht⟩) hS.2.2 dX9_count_133
