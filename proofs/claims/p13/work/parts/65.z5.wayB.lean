set_option maxHeartbeats 4000000 in
set_option maxRecDepth 100000 in
theorem s_nearer (l : Launch) (D : va_G) (x : Int32) (y : Int32) : cI l yX8_nearer (.code yX8_nearer cX8_nearer 2 (some .int)) ({ frames := 1, cells := 0, slots := 0, locals := 60 }) D [] [] xT [Value.int x, Value.int y] (S := Unit) (fun r _ => r = nrI x y) (fun _ => []) (fun _ => []) := by
  intro sz
  refine Met.ofW (cc := cX8_nearer) (maxL := 2) (ret := (some .int)) (by decide) rfl ?_
  intro p e s m args below meth c s₁ B hml hv
  obtain ⟨rfl, hsz, hP, hK, hD0, hX⟩ := hv
  have hx := B.exec
  have hb := B.bytes
  have hr := B.returns
  have hts0 := atoms_spec (ws := .code yX8_nearer cX8_nearer 2 (some .int) :: gw) B.pre
  have hts := fun (w : Cond) (h : w ∈ gw) => hts0 w (List.mem_cons_of_mem _ h)
  have hown : s.vm.findClass RX8 = some m.cls := findClass_of_methodNamed B.named
  have hlocks := B.notSynchronized
  have F : mFix p s m _ c cX8_nearer 2 RX8 := ⟨hx, hb, hml, hown, hts⟩
  subst hsz
  have hD := hD0.self (sz := s.heap.size)
  generalize hAe : va_A [] s.heap.size = A at hD hX ⊢
  have hA : ∀ q : Nat, s.heap.size ≤ q → A q := fun q h => by rw [← hAe]; exact Or.inr h
  have hS : va_S A s.heap s.heap [] := va_S.rf
  have hl := lv_entry ([Value.int x, Value.int y]) (n := 2) (Nat.le_of_ble_eq_true rfl)
  rw [lg_entry_eq]
  generalize (lg_sl ([Value.int x, Value.int y]) ++ List.replicate (2 - (lg_sl ([Value.int x, Value.int y])).length) Slot.unset).toArray = ls at hl ⊢
  have hl : lv_has ls 2 [(0, Value.int x), (1, Value.int y)] := hl
  have hP : va_P D vwCl [] s.heap := hP
  refine lv_iload_n hx hb dX8_nearer_0 rfl (lv_at hl 0 rfl) ?_
  refine lv_iconst (v := -1) hx hb dX8_nearer_1 (by decide) ?_
  refine lv_icmp_eq (tgt := 10) hx hb dX8_nearer_2 (by decide) (fun c_1 => ?_) (fun c_1 => ?_)
  · skip
    refine lv_iload_n hx hb dX8_nearer_10 rfl (lv_at hl 0 rfl) ?_
    refine lv_iconst (v := -1) hx hb dX8_nearer_11 (by decide) ?_
    refine lv_icmp_ne (tgt := 19) hx hb dX8_nearer_12 (by decide) (fun c_2 => absurd c_1 c_2) (fun c_2 => ?_)
    refine lv_iload_n hx hb dX8_nearer_15 rfl (lv_at hl 1 rfl) ?_
    refine lv_goto (tgt := 20) hx hb dX8_nearer_16 (by decide) ?_
    have hP9 := hP.sub (ws' := []) [] rfl
    have hD9 := hD.sub (ws' := []) [] (by decide) rfl
    have hK9 := hK.sub (tys' := []) [] rfl
    refine W.widen (k := 0) (n := 0) (by decide) (by decide) ?_
    exact W.iret (v := y) hx hb hr (fun t ht hW => ⟨⟨y, (), rfl, by unfold nrI; rw [if_pos c_1], by rw [ht]; exact hP9, va_K.moved hW.alike hK9, hD9⟩, hS.F ht⟩) hS.2.2 dX8_nearer_20
  · skip
    refine lv_iload_n hx hb dX8_nearer_5 rfl (lv_at hl 1 rfl) ?_
    refine lv_iconst (v := -1) hx hb dX8_nearer_6 (by decide) ?_
    refine lv_icmp_ne (tgt := 21) hx hb dX8_nearer_7 (by decide) (fun c_3 => ?_) (fun c_3 => ?_)
    · skip
      refine lv_iload_n hx hb dX8_nearer_21 rfl (lv_at hl 0 rfl) ?_
      refine lv_iload_n hx hb dX8_nearer_22 rfl (lv_at hl 1 rfl) ?_
      refine va_mmin hx hb (by rw [hml]; exact hl.1.symm) hown (hts _ kw_4_28) (hts _ kw_2_129) (hts _ kw_1_12) (hts _ kw_2_130) (Nat.le_of_ble_eq_true rfl) (Nat.le_of_ble_eq_true rfl) (Nat.le_of_ble_eq_true rfl) (Nat.le_of_ble_eq_true rfl) dX8_nearer_23 ?_
      refine lv_topi (fun z_4 ez_4 => ?_)
      have hP9 := hP.sub (ws' := []) [] rfl
      have hD9 := hD.sub (ws' := []) [] (by decide) rfl
      have hK9 := hK.sub (tys' := []) [] rfl
      refine W.widen (k := 0) (n := 0) (by decide) (by decide) ?_
      exact W.iret (v := z_4) hx hb hr (fun t ht hW => ⟨⟨z_4, (), rfl, by unfold nrI; rw [if_neg c_1, if_neg c_3]; exact ez_4, by rw [ht]; exact hP9, va_K.moved hW.alike hK9, hD9⟩, hS.F ht⟩) hS.2.2 dX8_nearer_26
    · skip
      refine lv_iload_n hx hb dX8_nearer_10 rfl (lv_at hl 0 rfl) ?_
      refine lv_iconst (v := -1) hx hb dX8_nearer_11 (by decide) ?_
      refine lv_icmp_ne (tgt := 19) hx hb dX8_nearer_12 (by decide) (fun c_5 => ?_) (fun c_5 => absurd c_5 c_1)
      refine lv_iload_n hx hb dX8_nearer_19 rfl (lv_at hl 0 rfl) ?_
      have hP9 := hP.sub (ws' := []) [] rfl
      have hD9 := hD.sub (ws' := []) [] (by decide) rfl
      have hK9 := hK.sub (tys' := []) [] rfl
      refine W.widen (k := 0) (n := 0) (by decide) (by decide) ?_
      exact W.iret (v := x) hx hb hr (fun t ht hW => ⟨⟨x, (), rfl, by unfold nrI; rw [if_neg c_1, if_pos c_3], by rw [ht]; exact hP9, va_K.moved hW.alike hK9, hD9⟩, hS.F ht⟩) hS.2.2 dX8_nearer_20
