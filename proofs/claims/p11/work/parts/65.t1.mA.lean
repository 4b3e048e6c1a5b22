set_option maxHeartbeats 4000000 in
set_option maxRecDepth 100000 in
theorem t_size (l : Launch) (D : va_G) (a : Nat) (b : Nat) (x : Int32) (hxe : x = nI a - nI b) (haL : a < 1000) (hbL : b < 1000) : cI l yX10_size (.code yX10_size cX10_size 1 (some .int)) ({ frames := 0, cells := 0, slots := 0, locals := 0 }) D [] [] xT [Value.int x] (S := Unit) (fun r _ => r = nI (dfN a b)) (fun _ => []) (fun _ => []) := by
  intro sz
  refine Met.ofW (cc := cX10_size) (maxL := 1) (ret := (some .int)) (by decide) rfl ?_
  intro p e s m args below meth c s₁ B hml hv
  obtain ⟨rfl, hsz, hP, hK, hD0, hX⟩ := hv
  have hx := B.exec
  have hb := B.bytes
  have hr := B.returns
  have hts0 := atoms_spec (ws := .code yX10_size cX10_size 1 (some .int) :: gw) B.pre
  have hts := fun (w : Cond) (h : w ∈ gw) => hts0 w (List.mem_cons_of_mem _ h)
  have hown : s.vm.findClass RX10 = some m.cls := findClass_of_methodNamed B.named
  have hlocks := B.notSynchronized
  have F : mFix p s m _ c cX10_size 1 RX10 := ⟨hx, hb, hml, hown, hts⟩
  subst hsz
  have hD := hD0.self (sz := s.heap.size)
  generalize hAe : va_A [] s.heap.size = A at hD hX ⊢
  have hA : ∀ q : Nat, s.heap.size ≤ q → A q := fun q h => by rw [← hAe]; exact Or.inr h
  have hS : va_S A s.heap s.heap [] := va_S.rf
  have hl := lv_entry ([Value.int x]) (n := 1) (Nat.le_of_ble_eq_true rfl)
  rw [lg_entry_eq]
  generalize (lg_sl ([Value.int x]) ++ List.replicate (1 - (lg_sl ([Value.int x])).length) Slot.unset).toArray = ls at hl ⊢
  have hl : lv_has ls 1 [(0, Value.int x)] := hl
  have hP : va_P D vwCl [] s.heap := hP
  refine lv_iload_n hx hb dX10_size_0 rfl (lv_at hl 0 rfl) ?_
  refine lv_if_ge (tgt := 9) hx hb dX10_size_1 (by decide) (fun c_1 => ?_) (fun c_1 => ?_)
  · skip
    have c_1 := Int32.not_lt.mpr c_1
    refine lv_iload_n hx hb dX10_size_9 rfl (lv_at hl 0 rfl) ?_
    have hP9 := hP.sub (ws' := []) [] rfl
    have hD9 := hD.sub (ws' := []) [] (by decide) rfl
    have hK9 := hK.sub (tys' := []) [] rfl
    refine W.widen (k := 0) (n := 0) (by decide) (by decide) ?_
    exact W.iret (v := x) hx hb hr (fun t ht hW => ⟨⟨x, (), rfl, (sz_pos haL hbL hxe c_1), by rw [ht]; exact hP9, va_K.moved hW.alike hK9, hD9⟩, hS.F ht⟩) hS.2.2 dX10_size_10
  · skip
    have c_1 := Int32.not_le.mp c_1
    refine lv_iload_n hx hb dX10_size_4 rfl (lv_at hl 0 rfl) ?_
    refine lv_ineg hx hb dX10_size_5 ?_
    refine lv_topi (fun z_2 ez_2 => ?_)
    refine lv_goto (tgt := 10) hx hb dX10_size_6 (by decide) ?_
    have hP9 := hP.sub (ws' := []) [] rfl
    have hD9 := hD.sub (ws' := []) [] (by decide) rfl
    have hK9 := hK.sub (tys' := []) [] rfl
    refine W.widen (k := 0) (n := 0) (by decide) (by decide) ?_
    exact W.iret (v := z_2) hx hb hr (fun t ht hW => ⟨⟨z_2, (), rfl, (by rw [ez_2]; exact sz_neg haL hbL hxe c_1), by rw [ht]; exact hP9, va_K.moved hW.alike hK9, hD9⟩, hS.F ht⟩) hS.2.2 dX10_size_10
set_option maxHeartbeats 4000000 in
set_option maxRecDepth 100000 in
theorem t_far (l : Launch) (D : va_G) (a : Nat) (b : Nat) (haL : a < 100) (hbL : b < 100) : cI l yX10_far (.code yX10_far cX10_far 4 (some .int)) ({ frames := 1, cells := 0, slots := 0, locals := 20 }) D [] [] xT [Value.int (nI a), Value.int (nI b)] (S := Unit) (fun r _ => r = nI (frN a b)) (fun _ => []) (fun _ => []) := by
  intro sz
  refine Met.ofW (cc := cX10_far) (maxL := 4) (ret := (some .int)) (by decide) rfl ?_
  intro p e s m args below meth c s₁ B hml hv
  obtain ⟨rfl, hsz, hP, hK, hD0, hX⟩ := hv
  have hx := B.exec
  have hb := B.bytes
  have hr := B.returns
  have hts0 := atoms_spec (ws := .code yX10_far cX10_far 4 (some .int) :: gw) B.pre
  have hts := fun (w : Cond) (h : w ∈ gw) => hts0 w (List.mem_cons_of_mem _ h)
  have hown : s.vm.findClass RX10 = some m.cls := findClass_of_methodNamed B.named
  have hlocks := B.notSynchronized
  have F : mFix p s m _ c cX10_far 4 RX10 := ⟨hx, hb, hml, hown, hts⟩
  subst hsz
  have hD := hD0.self (sz := s.heap.size)
  generalize hAe : va_A [] s.heap.size = A at hD hX ⊢
  have hA : ∀ q : Nat, s.heap.size ≤ q → A q := fun q h => by rw [← hAe]; exact Or.inr h
  have hS : va_S A s.heap s.heap [] := va_S.rf
  have hl := lv_entry ([Value.int (nI a), Value.int (nI b)]) (n := 4) (Nat.le_of_ble_eq_true rfl)
  rw [lg_entry_eq]
  generalize (lg_sl ([Value.int (nI a), Value.int (nI b)]) ++ List.replicate (4 - (lg_sl ([Value.int (nI a), Value.int (nI b)])).length) Slot.unset).toArray = ls at hl ⊢
  have hl : lv_has ls 4 [(0, Value.int (nI a)), (1, Value.int (nI b))] := hl
  have hP : va_P D vwCl [] s.heap := hP
  refine lv_iload_n hx hb dX10_far_0 rfl (lv_at hl 0 rfl) ?_
  refine lv_bipush (v := 10) hx hb dX10_far_1 (by decide) ?_
  refine lv_irem hx hb dX10_far_3 (by decide) ?_
  refine lv_topi (fun z_1 ez_1 => ?_)
  obtain rfl : z_1 = nI (a % 10) := ez_1.trans (pk_rem (a := a) (d := 10) (by omega) (by decide) (by decide))
  refine lv_iload_n hx hb dX10_far_4 rfl (lv_at hl 1 rfl) ?_
  refine lv_bipush (v := 10) hx hb dX10_far_5 (by decide) ?_
  refine lv_irem hx hb dX10_far_7 (by decide) ?_
  refine lv_topi (fun z_2 ez_2 => ?_)
  obtain rfl : z_2 = nI (b % 10) := ez_2.trans (pk_rem (a := b) (d := 10) (by omega) (by decide) (by decide))
  refine lv_isub hx hb dX10_far_8 ?_
  refine lv_topi (fun z_3 ez_3 => ?_)
  refine mc_Si (rest := []) (wr := []) F hK hP hD hS hA (t_size l D (a % 10) (b % 10) z_3 ez_3 (by omega) (by omega)) ⟨gk_X10_158.1, gk_X10_158.2, Nat.le_of_ble_eq_true rfl, Nat.le_of_ble_eq_true rfl⟩ [] [] [] ⟨rfl, rfl, rfl, rfl, by decide⟩ rfl xT_move (fun _ _ _ => trivial) rfl hl.1 rfl (Nat.le_of_ble_eq_true rfl) dX10_far_9 ⟨Nat.le_of_ble_eq_true rfl, Nat.le_of_ble_eq_true rfl⟩ (fun r_4 _ H locs hw hK1 hP hD hS => ?_)
  have hP : va_P D vwCl [] H := hP
  have hD : va_D A [] := hD
  have hw_5 : r_4 = nI (dfN (a % 10) (b % 10)) := hw
  obtain rfl : r_4 = nI (dfN (a % 10) (b % 10)) := hw_5
  have hdfr_4 : dfN (a % 10) (b % 10) = ((a % 10) - (b % 10)) + ((b % 10) - (a % 10)) := rfl
  refine lv_istore_n (lv' := [(2, Value.int (nI (dfN (a % 10) (b % 10)))), (0, Value.int (nI a)), (1, Value.int (nI b))]) hx hb dX10_far_12 rfl hl (by decide) rfl (fun ls hl => ?_)
  refine lv_iload_n hx hb dX10_far_13 rfl (lv_at hl 1 rfl) ?_
  refine lv_bipush (v := 10) hx hb dX10_far_14 (by decide) ?_
  refine lv_idiv hx hb dX10_far_16 (by decide) ?_
  refine lv_topi (fun z_6 ez_6 => ?_)
  obtain rfl : z_6 = nI (a / 10) := ez_6.trans (pk_div (a := a) (d := 10) (by omega) (by decide) (by decide))
  refine lv_iload_n hx hb dX10_far_17 rfl (lv_at hl 2 rfl) ?_
  refine lv_bipush (v := 10) hx hb dX10_far_18 (by decide) ?_
  refine lv_idiv hx hb dX10_far_20 (by decide) ?_
  refine lv_topi (fun z_7 ez_7 => ?_)
  obtain rfl : z_7 = nI (b / 10) := ez_7.trans (pk_div (a := b) (d := 10) (by omega) (by decide) (by decide))
  refine lv_isub hx hb dX10_far_21 ?_
  refine lv_topi (fun z_8 ez_8 => ?_)
  refine mc_Si (rest := []) (wr := []) F hK hP hD hS hA (t_size l D (a / 10) (b / 10) z_8 ez_8 (by omega) (by omega)) ⟨gk_X10_158.1, gk_X10_158.2, Nat.le_of_ble_eq_true rfl, Nat.le_of_ble_eq_true rfl⟩ [] [] [] ⟨rfl, rfl, rfl, rfl, by decide⟩ rfl xT_move (fun _ _ _ => trivial) rfl hl.1 rfl (Nat.le_of_ble_eq_true rfl) dX10_far_22 ⟨Nat.le_of_ble_eq_true rfl, Nat.le_of_ble_eq_true rfl⟩ (fun r_9 _ H locs hw hK1 hP hD hS => ?_)
  have hP : va_P D vwCl [] H := hP
  have hD : va_D A [] := hD
  have hw_10 : r_9 = nI (dfN (a / 10) (b / 10)) := hw
  obtain rfl : r_9 = nI (dfN (a / 10) (b / 10)) := hw_10
  have hdfr_9 : dfN (a / 10) (b / 10) = ((a / 10) - (b / 10)) + ((b / 10) - (a / 10)) := rfl
  refine lv_istore_n (lv' := [(3, Value.int (nI (dfN (a / 10) (b / 10)))), (2, Value.int (nI (dfN (a % 10) (b % 10)))), (0, Value.int (nI a)), (1, Value.int (nI b))]) hx hb dX10_far_25 rfl hl (by decide) rfl (fun ls hl => ?_)
  refine lv_iload_n hx hb dX10_far_26 rfl (lv_at hl 1 rfl) ?_
  refine lv_iload_n hx hb dX10_far_27 rfl (lv_at hl 0 rfl) ?_
  refine lv_icmp_le (tgt := 35) hx hb dX10_far_28 (by decide) (fun c_11 => ?_) (fun c_11 => ?_)
  · skip
    have c_11n : (dfN (a % 10) (b % 10)) ≤ (dfN (a / 10) (b / 10)) := (nI_leI (by omega) (by omega)).mp c_11
    have c_11 := Int32.not_lt.mpr c_11
    refine lv_iload_n hx hb dX10_far_35 rfl (lv_at hl 0 rfl) ?_
    have hP9 := hP.sub (ws' := []) [] rfl
    have hD9 := hD.sub (ws' := []) [] (by decide) rfl
    have hK9 := hK.sub (tys' := []) [] rfl
    refine W.widen (k := 0) (n := 0) (by decide) (by decide) ?_
    exact W.iret (v := nI (dfN (a / 10) (b / 10))) hx hb hr (fun t ht hW => ⟨⟨(nI (dfN (a / 10) (b / 10))), (), rfl, (congrArg nI (frN_1 c_11n)), by rw [ht]; exact hP9, va_K.moved hW.alike hK9, hD9⟩, hS.F ht⟩) hS.2.2 dX10_far_36
  · skip
    have c_11n : (dfN (a / 10) (b / 10)) < (dfN (a % 10) (b % 10)) := nb_le (by omega) (by omega) c_11
    have c_11 := Int32.not_le.mp c_11
    refine lv_iload_n hx hb dX10_far_31 rfl (lv_at hl 1 rfl) ?_
    refine lv_goto (tgt := 36) hx hb dX10_far_32 (by decide) ?_
    have hP9 := hP.sub (ws' := []) [] rfl
    have hD9 := hD.sub (ws' := []) [] (by decide) rfl
    have hK9 := hK.sub (tys' := []) [] rfl
    refine W.widen (k := 0) (n := 0) (by decide) (by decide) ?_
    exact W.iret (v := nI (dfN (a % 10) (b % 10))) hx hb hr (fun t ht hW => ⟨⟨(nI (dfN (a % 10) (b % 10))), (), rfl, (congrArg nI (frN_2 c_11n)), by rw [ht]; exact hP9, va_K.moved hW.alike hK9, hD9⟩, hS.F ht⟩) hS.2.2 dX10_far_36
set_option maxHeartbeats 4000000 in
set_option maxRecDepth 100000 in
theorem lp_t_strain {p : Program} {l : Launch} {e : Env} {s : State} {m : MethodId} {args : Array Value} {below : List Frame} {meth : Method} {c : Code} {Q : State → Prop} {A : Nat → Prop} {D : va_G} (F : mFix p s m args c cX10_strain 6 RX10) (hA : ∀ q, s.heap.size ≤ q → A q) (h0 : Nat) (m_tape : Nat) (ln : Nat) (s_thrown : Int32) (m_rule : Nat) (m_rules : Nat) (sn : Nat) (m_stair : Nat) (s_readStairs : Int32) (s_fault : Int32) (s_faultPlace : Int32) (w : Nat) (h : Nat) (m_low : Nat) (m_high : Nat) (m_crack : Nat) (bc : Nat) (m_weight : Nat) (m_fire : Nat) (m_crowd : Nat) (m_state : Nat) (m_where : Nat) (s_hours : Int32) (s_fees : Int32) (s_looks : Int32) (m_words : Nat) (s_end : Int32) (s_next : Int32) (s_kind : Int32) (s_which : Int32) (s_place : Int32) (s_read : Int32) (m_told : Nat) (m_breaks : Nat) (m_row : Nat) (m_tried : Nat) (m_steps : Nat) (m_paths : Nat) (y_state : ClassId) (f_state : Nat → Int32) (y_where : ClassId) (f_where : Nat → Int32) (y_weight : ClassId) (f_weight : Nat → Int32) (cq : Nat) (wt : Nat → Nat) (wh : Nat → Nat) (hK : va_K D vwCl [(y_state, .int), (y_where, .int), (y_weight, .int)] s)
    (kx_120 : ∀ (su : Nat), (su = strN f_state wt wh cq bc) → ∀ (H : Heap) (locs : List Loc), va_P D vwCl [(h0, Sum.inr (9, [Value.ref m_tape, Value.int (nI ln), Value.int s_thrown, Value.ref m_rule, Value.ref m_rules, Value.int (nI sn), Value.ref m_stair, Value.int s_readStairs, Value.int s_fault, Value.int s_faultPlace, Value.int (nI w), Value.int (nI h), Value.ref m_low, Value.ref m_high, Value.ref m_crack, Value.int (nI bc), Value.ref m_weight, Value.ref m_fire, Value.ref m_crowd, Value.ref m_state, Value.ref m_where, Value.int s_hours, Value.int s_fees, Value.int s_looks, Value.ref m_words, Value.int s_end, Value.int s_next, Value.int s_kind, Value.int s_which, Value.int s_place, Value.int s_read, Value.ref m_told, Value.ref m_breaks, Value.ref m_row, Value.ref m_tried, Value.ref m_steps, Value.ref m_paths])), (m_state, Sum.inl (y_state, 10, Sum.inl f_state)), (m_where, Sum.inl (y_where, 10, Sum.inl f_where)), (m_weight, Sum.inl (y_weight, 10, Sum.inl f_weight))] H → va_D A [(h0, Sum.inr (9, [Value.ref m_tape, Value.int (nI ln), Value.int s_thrown, Value.ref m_rule, Value.ref m_rules, Value.int (nI sn), Value.ref m_stair, Value.int s_readStairs, Value.int s_fault, Value.int s_faultPlace, Value.int (nI w), Value.int (nI h), Value.ref m_low, Value.ref m_high, Value.ref m_crack, Value.int (nI bc), Value.ref m_weight, Value.ref m_fire, Value.ref m_crowd, Value.ref m_state, Value.ref m_where, Value.int s_hours, Value.int s_fees, Value.int s_looks, Value.ref m_words, Value.int s_end, Value.int s_next, Value.int s_kind, Value.int s_which, Value.int s_place, Value.int s_read, Value.ref m_told, Value.ref m_breaks, Value.ref m_row, Value.ref m_tried, Value.ref m_steps, Value.ref m_paths])), (m_state, Sum.inl (y_state, 10, Sum.inl f_state)), (m_where, Sum.inl (y_where, 10, Sum.inl f_where)), (m_weight, Sum.inl (y_weight, 10, Sum.inl f_weight))] → va_S A s.heap H locs → ∀ ls : Array Slot, lv_has ls 6 [(2, Value.int (nI su))] → W p l e ({ frames := 1, cells := 0, slots := 0, locals := 20 }) s m args below meth c H locs 0 0 Q (F0 m 120 ls [])) :
    ∀ n : Nat, ∀ (su : Nat) (i : Nat), (i ≤ bc) → (bc ≤ 10) → (cq < 100) → (∀ b, b < bc → f_state b = 1 → f_where b = nI (wh b) ∧ wh b < 100) → (CW bc f_weight wt) → (su = strN f_state wt wh cq i) → (bc - i) < n → ∀ (H : Heap) (locs : List Loc), va_P D vwCl [(h0, Sum.inr (9, [Value.ref m_tape, Value.int (nI ln), Value.int s_thrown, Value.ref m_rule, Value.ref m_rules, Value.int (nI sn), Value.ref m_stair, Value.int s_readStairs, Value.int s_fault, Value.int s_faultPlace, Value.int (nI w), Value.int (nI h), Value.ref m_low, Value.ref m_high, Value.ref m_crack, Value.int (nI bc), Value.ref m_weight, Value.ref m_fire, Value.ref m_crowd, Value.ref m_state, Value.ref m_where, Value.int s_hours, Value.int s_fees, Value.int s_looks, Value.ref m_words, Value.int s_end, Value.int s_next, Value.int s_kind, Value.int s_which, Value.int s_place, Value.int s_read, Value.ref m_told, Value.ref m_breaks, Value.ref m_row, Value.ref m_tried, Value.ref m_steps, Value.ref m_paths])), (m_state, Sum.inl (y_state, 10, Sum.inl f_state)), (m_where, Sum.inl (y_where, 10, Sum.inl f_where)), (m_weight, Sum.inl (y_weight, 10, Sum.inl f_weight))] H → va_D A [(h0, Sum.inr (9, [Value.ref m_tape, Value.int (nI ln), Value.int s_thrown, Value.ref m_rule, Value.ref m_rules, Value.int (nI sn), Value.ref m_stair, Value.int s_readStairs, Value.int s_fault, Value.int s_faultPlace, Value.int (nI w), Value.int (nI h), Value.ref m_low, Value.ref m_high, Value.ref m_crack, Value.int (nI bc), Value.ref m_weight, Value.ref m_fire, Value.ref m_crowd, Value.ref m_state, Value.ref m_where, Value.int s_hours, Value.int s_fees, Value.int s_looks, Value.ref m_words, Value.int s_end, Value.int s_next, Value.int s_kind, Value.int s_which, Value.int s_place, Value.int s_read, Value.ref m_told, Value.ref m_breaks, Value.ref m_row, Value.ref m_tried, Value.ref m_steps, Value.ref m_paths])), (m_state, Sum.inl (y_state, 10, Sum.inl f_state)), (m_where, Sum.inl (y_where, 10, Sum.inl f_where)), (m_weight, Sum.inl (y_weight, 10, Sum.inl f_weight))] → va_S A s.heap H locs → ∀ ls : Array Slot, lv_has ls 6 [(0, Value.ref h0), (1, Value.int (nI cq)), (2, Value.int (nI su)), (3, Value.int (nI i))] → W p l e ({ frames := 1, cells := 0, slots := 0, locals := 20 }) s m args below meth c H locs 0 0 Q (F0 m 4 ls []) := by
  intro n
  induction n with
  | zero => intro su i hi hbc hcq hWm hWt hsu hn; exact absurd hn (Nat.not_lt_zero _)
  | succ n ih =>
    intro su i hi hbc hcq hWm hWt hsu hn H locs hP hD hS ls hl
    obtain ⟨hx, hb, hml, hown, hts⟩ := id F
    have hsb : su ≤ 2000 := by rw [hsu]; exact Nat.le_trans (strN_le i (fun b hb => (hWt b (by omega)).2)) (by omega)
    refine lv_iload_n hx hb dX10_strain_4 rfl (lv_at hl 3 rfl) ?_
    refine lv_aload_n hx hb dX10_strain_5 rfl (lv_at hl 0 rfl) ?_
    refine va_get (D := D) (ci := 9) (v := Value.int (nI bc)) (C := RX10) (T := TX10) (N := 37) hx hb hts inG_X10 hown hK hP 0 rfl rfl 15 (by decide) (hts _ kw_4_210) (fun _ h9 => h9) rfl dX10_strain_6 ?_
    refine lv_icmp_ge (tgt := 120) hx hb dX10_strain_9 (by decide) (fun c_1 => ?_) (fun c_1 => ?_)
    · skip
      have c_1n : bc ≤ i := (nI_leI (by omega) (by omega)).mp c_1
      have c_1 := Int32.not_lt.mpr c_1
      exact kx_120 su ((show i = bc by omega) ▸ hsu) H locs (hP.sub [0, 1, 2, 3] rfl) (hD.sub [0, 1, 2, 3] (by decide) rfl) hS ls (lv_sub hl [2] rfl)
    · skip
      have c_1n : i < bc := nb_le (by omega) (by omega) c_1
      have c_1 := Int32.not_le.mp c_1
      refine lv_aload_n hx hb dX10_strain_12 rfl (lv_at hl 0 rfl) ?_
      refine va_get (D := D) (ci := 9) (v := Value.ref m_state) (C := RX10) (T := TX10) (N := 37) hx hb hts inG_X10 hown hK hP 0 rfl rfl 19 (by decide) (hts _ kw_4_214) (fun _ h9 => h9) rfl dX10_strain_13 ?_
      refine lv_iload_n hx hb dX10_strain_16 rfl (lv_at hl 3 rfl) ?_
      refine m_iald hx hb hK hP 1 0 rfl rfl i rfl (by omega) (by decide) dX10_strain_17 ?_
      refine lv_topi (fun v_2 ev_2 => ?_)
      refine lv_iconst (v := 1) hx hb dX10_strain_18 (by decide) ?_
      refine lv_icmp_eq (tgt := 25) hx hb dX10_strain_19 (by decide) (fun c_3 => ?_) (fun c_3 => ?_)
      · skip
        have hs1 : f_state i = 1 := by rw [← ev_2]; exact c_3
        have hw9 := hWm i (by omega) hs1
        have hwt9 := hWt i (by omega)
        refine lv_aload_n hx hb dX10_strain_25 rfl (lv_at hl 0 rfl) ?_
        refine va_get (D := D) (ci := 9) (v := Value.ref m_where) (C := RX10) (T := TX10) (N := 37) hx hb hts inG_X10 hown hK hP 0 rfl rfl 20 (by decide) (hts _ kw_4_215) (fun _ h9 => h9) rfl dX10_strain_26 ?_
        refine lv_iload_n hx hb dX10_strain_29 rfl (lv_at hl 3 rfl) ?_
        refine m_iald hx hb hK hP 2 1 rfl rfl i rfl (by omega) (by decide) dX10_strain_30 ?_
        refine lv_topi (fun v_4 ev_4 => ?_)
        obtain rfl : v_4 = nI (wh i) := ev_4.trans hw9.1
        refine lv_bipush (v := 10) hx hb dX10_strain_31 (by decide) ?_
        refine lv_irem hx hb dX10_strain_33 (by decide) ?_
        refine lv_topi (fun z_5 ez_5 => ?_)
        obtain rfl : z_5 = nI ((wh i) % 10) := ez_5.trans (pk_rem (a := wh i) (d := 10) (by omega) (by decide) (by decide))
        refine lv_iload_n hx hb dX10_strain_34 rfl (lv_at hl 1 rfl) ?_
        refine lv_bipush (v := 10) hx hb dX10_strain_35 (by decide) ?_
        refine lv_irem hx hb dX10_strain_37 (by decide) ?_
        refine lv_topi (fun z_6 ez_6 => ?_)
        obtain rfl : z_6 = nI (cq % 10) := ez_6.trans (pk_rem (a := cq) (d := 10) (by omega) (by decide) (by decide))
        refine lv_isub hx hb dX10_strain_38 ?_
        refine lv_topi (fun z_7 ez_7 => ?_)
        refine mc_Si (rest := []) (wr := [(h0, Sum.inr (9, [Value.ref m_tape, Value.int (nI ln), Value.int s_thrown, Value.ref m_rule, Value.ref m_rules, Value.int (nI sn), Value.ref m_stair, Value.int s_readStairs, Value.int s_fault, Value.int s_faultPlace, Value.int (nI w), Value.int (nI h), Value.ref m_low, Value.ref m_high, Value.ref m_crack, Value.int (nI bc), Value.ref m_weight, Value.ref m_fire, Value.ref m_crowd, Value.ref m_state, Value.ref m_where, Value.int s_hours, Value.int s_fees, Value.int s_looks, Value.ref m_words, Value.int s_end, Value.int s_next, Value.int s_kind, Value.int s_which, Value.int s_place, Value.int s_read, Value.ref m_told, Value.ref m_breaks, Value.ref m_row, Value.ref m_tried, Value.ref m_steps, Value.ref m_paths])), (m_state, Sum.inl (y_state, 10, Sum.inl f_state)), (m_where, Sum.inl (y_where, 10, Sum.inl f_where)), (m_weight, Sum.inl (y_weight, 10, Sum.inl f_weight))]) F hK hP hD hS hA (t_size l D (wh i % 10) (cq % 10) z_7 ez_7 (by omega) (by omega)) ⟨gk_X10_158.1, gk_X10_158.2, Nat.le_of_ble_eq_true rfl, Nat.le_of_ble_eq_true rfl⟩ [] [0, 1, 2, 3] [] ⟨rfl, rfl, rfl, rfl, by decide⟩ rfl xT_move (fun _ _ _ => trivial) rfl hl.1 rfl (Nat.le_of_ble_eq_true rfl) dX10_strain_39 ⟨Nat.le_of_ble_eq_true rfl, Nat.le_of_ble_eq_true rfl⟩ (fun r_8 _ H locs hw hK1 hP hD hS => ?_)
        have hP : va_P D vwCl [(h0, Sum.inr (9, [Value.ref m_tape, Value.int (nI ln), Value.int s_thrown, Value.ref m_rule, Value.ref m_rules, Value.int (nI sn), Value.ref m_stair, Value.int s_readStairs, Value.int s_fault, Value.int s_faultPlace, Value.int (nI w), Value.int (nI h), Value.ref m_low, Value.ref m_high, Value.ref m_crack, Value.int (nI bc), Value.ref m_weight, Value.ref m_fire, Value.ref m_crowd, Value.ref m_state, Value.ref m_where, Value.int s_hours, Value.int s_fees, Value.int s_looks, Value.ref m_words, Value.int s_end, Value.int s_next, Value.int s_kind, Value.int s_which, Value.int s_place, Value.int s_read, Value.ref m_told, Value.ref m_breaks, Value.ref m_row, Value.ref m_tried, Value.ref m_steps, Value.ref m_paths])), (m_state, Sum.inl (y_state, 10, Sum.inl f_state)), (m_where, Sum.inl (y_where, 10, Sum.inl f_where)), (m_weight, Sum.inl (y_weight, 10, Sum.inl f_weight))] H := hP
        have hD : va_D A [(h0, Sum.inr (9, [Value.ref m_tape, Value.int (nI ln), Value.int s_thrown, Value.ref m_rule, Value.ref m_rules, Value.int (nI sn), Value.ref m_stair, Value.int s_readStairs, Value.int s_fault, Value.int s_faultPlace, Value.int (nI w), Value.int (nI h), Value.ref m_low, Value.ref m_high, Value.ref m_crack, Value.int (nI bc), Value.ref m_weight, Value.ref m_fire, Value.ref m_crowd, Value.ref m_state, Value.ref m_where, Value.int s_hours, Value.int s_fees, Value.int s_looks, Value.ref m_words, Value.int s_end, Value.int s_next, Value.int s_kind, Value.int s_which, Value.int s_place, Value.int s_read, Value.ref m_told, Value.ref m_breaks, Value.ref m_row, Value.ref m_tried, Value.ref m_steps, Value.ref m_paths])), (m_state, Sum.inl (y_state, 10, Sum.inl f_state)), (m_where, Sum.inl (y_where, 10, Sum.inl f_where)), (m_weight, Sum.inl (y_weight, 10, Sum.inl f_weight))] := hD
        have hw_9 : r_8 = nI (dfN (wh i % 10) (cq % 10)) := hw
        obtain rfl : r_8 = nI (dfN (wh i % 10) (cq % 10)) := hw_9
        have hdfr_8 : dfN (wh i % 10) (cq % 10) = ((wh i % 10) - (cq % 10)) + ((cq % 10) - (wh i % 10)) := rfl
        refine lv_istore (lv' := [(4, Value.int (nI (dfN (wh i % 10) (cq % 10)))), (0, Value.ref h0), (1, Value.int (nI cq)), (2, Value.int (nI su)), (3, Value.int (nI i))]) hx hb dX10_strain_42 hl (by decide) rfl (fun ls hl => ?_)
        refine lv_aload_n hx hb dX10_strain_44 rfl (lv_at hl 1 rfl) ?_
        refine va_get (D := D) (ci := 9) (v := Value.ref m_where) (C := RX10) (T := TX10) (N := 37) hx hb hts inG_X10 hown hK hP 0 rfl rfl 20 (by decide) (hts _ kw_4_215) (fun _ h9 => h9) rfl dX10_strain_45 ?_
        refine lv_iload_n hx hb dX10_strain_48 rfl (lv_at hl 4 rfl) ?_
        refine m_iald hx hb hK hP 2 1 rfl rfl i rfl (by omega) (by decide) dX10_strain_49 ?_
        refine lv_topi (fun v_10 ev_10 => ?_)
        obtain rfl : v_10 = nI (wh i) := ev_10.trans hw9.1
        refine lv_bipush (v := 10) hx hb dX10_strain_50 (by decide) ?_
        refine lv_idiv hx hb dX10_strain_52 (by decide) ?_
        refine lv_topi (fun z_11 ez_11 => ?_)
        obtain rfl : z_11 = nI ((wh i) / 10) := ez_11.trans (pk_div (a := wh i) (d := 10) (by omega) (by decide) (by decide))
        refine lv_iload_n hx hb dX10_strain_53 rfl (lv_at hl 2 rfl) ?_
        refine lv_bipush (v := 10) hx hb dX10_strain_54 (by decide) ?_
        refine lv_idiv hx hb dX10_strain_56 (by decide) ?_
        refine lv_topi (fun z_12 ez_12 => ?_)
        obtain rfl : z_12 = nI (cq / 10) := ez_12.trans (pk_div (a := cq) (d := 10) (by omega) (by decide) (by decide))
        refine lv_isub hx hb dX10_strain_57 ?_
        refine lv_topi (fun z_13 ez_13 => ?_)
        refine mc_Si (rest := []) (wr := [(h0, Sum.inr (9, [Value.ref m_tape, Value.int (nI ln), Value.int s_thrown, Value.ref m_rule, Value.ref m_rules, Value.int (nI sn), Value.ref m_stair, Value.int s_readStairs, Value.int s_fault, Value.int s_faultPlace, Value.int (nI w), Value.int (nI h), Value.ref m_low, Value.ref m_high, Value.ref m_crack, Value.int (nI bc), Value.ref m_weight, Value.ref m_fire, Value.ref m_crowd, Value.ref m_state, Value.ref m_where, Value.int s_hours, Value.int s_fees, Value.int s_looks, Value.ref m_words, Value.int s_end, Value.int s_next, Value.int s_kind, Value.int s_which, Value.int s_place, Value.int s_read, Value.ref m_told, Value.ref m_breaks, Value.ref m_row, Value.ref m_tried, Value.ref m_steps, Value.ref m_paths])), (m_state, Sum.inl (y_state, 10, Sum.inl f_state)), (m_where, Sum.inl (y_where, 10, Sum.inl f_where)), (m_weight, Sum.inl (y_weight, 10, Sum.inl f_weight))]) F hK hP hD hS hA (t_size l D (wh i / 10) (cq / 10) z_13 ez_13 (by omega) (by omega)) ⟨gk_X10_158.1, gk_X10_158.2, Nat.le_of_ble_eq_true rfl, Nat.le_of_ble_eq_true rfl⟩ [] [0, 1, 2, 3] [] ⟨rfl, rfl, rfl, rfl, by decide⟩ rfl xT_move (fun _ _ _ => trivial) rfl hl.1 rfl (Nat.le_of_ble_eq_true rfl) dX10_strain_58 ⟨Nat.le_of_ble_eq_true rfl, Nat.le_of_ble_eq_true rfl⟩ (fun r_14 _ H locs hw hK1 hP hD hS => ?_)
        have hP : va_P D vwCl [(h0, Sum.inr (9, [Value.ref m_tape, Value.int (nI ln), Value.int s_thrown, Value.ref m_rule, Value.ref m_rules, Value.int (nI sn), Value.ref m_stair, Value.int s_readStairs, Value.int s_fault, Value.int s_faultPlace, Value.int (nI w), Value.int (nI h), Value.ref m_low, Value.ref m_high, Value.ref m_crack, Value.int (nI bc), Value.ref m_weight, Value.ref m_fire, Value.ref m_crowd, Value.ref m_state, Value.ref m_where, Value.int s_hours, Value.int s_fees, Value.int s_looks, Value.ref m_words, Value.int s_end, Value.int s_next, Value.int s_kind, Value.int s_which, Value.int s_place, Value.int s_read, Value.ref m_told, Value.ref m_breaks, Value.ref m_row, Value.ref m_tried, Value.ref m_steps, Value.ref m_paths])), (m_state, Sum.inl (y_state, 10, Sum.inl f_state)), (m_where, Sum.inl (y_where, 10, Sum.inl f_where)), (m_weight, Sum.inl (y_weight, 10, Sum.inl f_weight))] H := hP
        have hD : va_D A [(h0, Sum.inr (9, [Value.ref m_tape, Value.int (nI ln), Value.int s_thrown, Value.ref m_rule, Value.ref m_rules, Value.int (nI sn), Value.ref m_stair, Value.int s_readStairs, Value.int s_fault, Value.int s_faultPlace, Value.int (nI w), Value.int (nI h), Value.ref m_low, Value.ref m_high, Value.ref m_crack, Value.int (nI bc), Value.ref m_weight, Value.ref m_fire, Value.ref m_crowd, Value.ref m_state, Value.ref m_where, Value.int s_hours, Value.int s_fees, Value.int s_looks, Value.ref m_words, Value.int s_end, Value.int s_next, Value.int s_kind, Value.int s_which, Value.int s_place, Value.int s_read, Value.ref m_told, Value.ref m_breaks, Value.ref m_row, Value.ref m_tried, Value.ref m_steps, Value.ref m_paths])), (m_state, Sum.inl (y_state, 10, Sum.inl f_state)), (m_where, Sum.inl (y_where, 10, Sum.inl f_where)), (m_weight, Sum.inl (y_weight, 10, Sum.inl f_weight))] := hD
        have hw_15 : r_14 = nI (dfN (wh i / 10) (cq / 10)) := hw
        obtain rfl : r_14 = nI (dfN (wh i / 10) (cq / 10)) := hw_15
        have hdfr_14 : dfN (wh i / 10) (cq / 10) = ((wh i / 10) - (cq / 10)) + ((cq / 10) - (wh i / 10)) := rfl
        refine lv_istore (lv' := [(5, Value.int (nI (dfN (wh i / 10) (cq / 10)))), (4, Value.int (nI (dfN (wh i % 10) (cq % 10)))), (0, Value.ref h0), (1, Value.int (nI cq)), (2, Value.int (nI su)), (3, Value.int (nI i))]) hx hb dX10_strain_61 hl (by decide) rfl (fun ls hl => ?_)
        refine lv_iload hx hb dX10_strain_63 (lv_at hl 1 rfl) ?_
        refine lv_iconst (v := 1) hx hb dX10_strain_65 (by decide) ?_
        refine lv_icmp_gt (tgt := 114) hx hb dX10_strain_66 (by decide) (fun c_16 => ?_) (fun c_16 => ?_)
        · skip
          have c_16n : 1 < (dfN (wh i % 10) (cq % 10)) := (nI_ltI (by omega) (by omega)).mp c_16
          refine lv_iinc (v := nI (i + 1)) (lv' := [(3, Value.int (nI (i + 1))), (5, Value.int (nI (dfN (wh i / 10) (cq / 10)))), (4, Value.int (nI (dfN (wh i % 10) (cq % 10)))), (0, Value.ref h0), (1, Value.int (nI cq)), (2, Value.int (nI su))]) hx hb dX10_strain_114 hl (k := 5) rfl (nI_add i 1) (by decide) rfl (fun ls hl => ?_)
          refine lv_goto (tgt := 4) hx hb dX10_strain_117 (by decide) ?_
          exact ih su (i + 1) (by omega) (by omega) (by omega) hWm hWt (hsu.trans (strN_n (Or.inr (shN_0 (Or.inl c_16n))))) (by omega) H locs (hP.sub [0, 1, 2, 3] rfl) (hD.sub [0, 1, 2, 3] (by decide) rfl) hS ls (lv_sub hl [3, 4, 5, 0] rfl)
        · skip
          have c_16n : (dfN (wh i % 10) (cq % 10)) ≤ 1 := nb_lt (by omega) (by omega) c_16
          refine lv_iload hx hb dX10_strain_69 (lv_at hl 0 rfl) ?_
          refine lv_iconst (v := 1) hx hb dX10_strain_71 (by decide) ?_
          refine lv_icmp_le (tgt := 78) hx hb dX10_strain_72 (by decide) (fun c_17 => ?_) (fun c_17 => ?_)
          · skip
            have c_17n : (dfN (wh i / 10) (cq / 10)) ≤ 1 := (nI_leI (by omega) (by omega)).mp c_17
            have c_17 := Int32.not_lt.mpr c_17
            refine lv_iload_n hx hb dX10_strain_78 rfl (lv_at hl 4 rfl) ?_
            refine lv_aload_n hx hb dX10_strain_79 rfl (lv_at hl 2 rfl) ?_
            refine va_get (D := D) (ci := 9) (v := Value.ref m_weight) (C := RX10) (T := TX10) (N := 37) hx hb hts inG_X10 hown hK hP 0 rfl rfl 16 (by decide) (hts _ kw_4_211) (fun _ h9 => h9) rfl dX10_strain_80 ?_
            refine lv_iload_n hx hb dX10_strain_83 rfl (lv_at hl 5 rfl) ?_
            refine m_iald hx hb hK hP 3 2 rfl rfl i rfl (by omega) (by decide) dX10_strain_84 ?_
            refine lv_topi (fun v_18 ev_18 => ?_)
            obtain rfl : v_18 = nI (wt i) := ev_18.trans hwt9.1
            refine lv_iload hx hb dX10_strain_85 (lv_at hl 1 rfl) ?_
            refine lv_iload hx hb dX10_strain_87 (lv_at hl 0 rfl) ?_
            refine lv_iadd hx hb dX10_strain_89 ?_
            refine lv_topi (fun z_19 ez_19 => ?_)
            obtain rfl : z_19 = nI (dfN (wh i % 10) (cq % 10) + dfN (wh i / 10) (cq / 10)) := ez_19.trans (nI_add (dfN (wh i % 10) (cq % 10)) (dfN (wh i / 10) (cq / 10)))
            refine lv_if_ne (tgt := 97) hx hb dX10_strain_90 (by decide) (fun c_20 => ?_) (fun c_20 => ?_)
            · skip
              have c_20n : ¬ (dfN (wh i % 10) (cq % 10) + dfN (wh i / 10) (cq / 10)) = 0 := nb_eq (by omega) (by omega) c_20
              refine lv_iload hx hb dX10_strain_97 (lv_at hl 1 rfl) ?_
              refine lv_iload hx hb dX10_strain_99 (lv_at hl 0 rfl) ?_
              refine lv_iadd hx hb dX10_strain_101 ?_
              refine lv_topi (fun z_21 ez_21 => ?_)
              obtain rfl : z_21 = nI (dfN (wh i % 10) (cq % 10) + dfN (wh i / 10) (cq / 10)) := ez_21.trans (nI_add (dfN (wh i % 10) (cq % 10)) (dfN (wh i / 10) (cq / 10)))
              refine lv_iconst (v := 1) hx hb dX10_strain_102 (by decide) ?_
              refine lv_icmp_ne (tgt := 110) hx hb dX10_strain_103 (by decide) (fun c_22 => ?_) (fun c_22 => ?_)
              · skip
                have c_22n : ¬ (dfN (wh i % 10) (cq % 10) + dfN (wh i / 10) (cq / 10)) = 1 := nb_eq (by omega) (by omega) c_22
                refine lv_iconst (v := 1) hx hb dX10_strain_110 (by decide) ?_
                refine lv_imul hx hb dX10_strain_111 ?_
                refine lv_topi (fun z_23 ez_23 => ?_)
                obtain rfl : z_23 = nI ((wt i) * 1) := ez_23.trans (pk_mul (wt i) 1)
                refine lv_iadd hx hb dX10_strain_112 ?_
                refine lv_topi (fun z_24 ez_24 => ?_)
                obtain rfl : z_24 = nI (su + (wt i) * 1) := ez_24.trans (nI_add su ((wt i) * 1))
                refine lv_istore_n (lv' := [(2, Value.int (nI (su + (wt i) * 1))), (5, Value.int (nI (dfN (wh i / 10) (cq / 10)))), (4, Value.int (nI (dfN (wh i % 10) (cq % 10)))), (0, Value.ref h0), (1, Value.int (nI cq)), (3, Value.int (nI i))]) hx hb dX10_strain_113 rfl hl (by decide) rfl (fun ls hl => ?_)
                refine lv_iinc (v := nI (i + 1)) (lv' := [(3, Value.int (nI (i + 1))), (2, Value.int (nI (su + (wt i) * 1))), (5, Value.int (nI (dfN (wh i / 10) (cq / 10)))), (4, Value.int (nI (dfN (wh i % 10) (cq % 10)))), (0, Value.ref h0), (1, Value.int (nI cq))]) hx hb dX10_strain_114 hl (k := 5) rfl (nI_add i 1) (by decide) rfl (fun ls hl => ?_)
                refine lv_goto (tgt := 4) hx hb dX10_strain_117 (by decide) ?_
                exact ih (su + (wt i) * 1) (i + 1) (by omega) (by omega) (by omega) hWm hWt (by rw [hsu]; exact strN_y hs1 (shN_v (by omega) (by omega) (Or.inr (Or.inr ⟨c_20n, c_22n, rfl⟩)))) (by omega) H locs (hP.sub [0, 1, 2, 3] rfl) (hD.sub [0, 1, 2, 3] (by decide) rfl) hS ls (lv_sub hl [4, 5, 1, 0] rfl)
              · skip
                have c_22n : (dfN (wh i % 10) (cq % 10) + dfN (wh i / 10) (cq / 10)) = 1 := (nI_eq (by omega) (by omega)).mp c_22
                refine lv_iconst (v := 2) hx hb dX10_strain_106 (by decide) ?_
                refine lv_goto (tgt := 111) hx hb dX10_strain_107 (by decide) ?_
                refine lv_imul hx hb dX10_strain_111 ?_
                refine lv_topi (fun z_25 ez_25 => ?_)
                obtain rfl : z_25 = nI ((wt i) * 2) := ez_25.trans (pk_mul (wt i) 2)
                refine lv_iadd hx hb dX10_strain_112 ?_
                refine lv_topi (fun z_26 ez_26 => ?_)
                obtain rfl : z_26 = nI (su + (wt i) * 2) := ez_26.trans (nI_add su ((wt i) * 2))
                refine lv_istore_n (lv' := [(2, Value.int (nI (su + (wt i) * 2))), (5, Value.int (nI (dfN (wh i / 10) (cq / 10)))), (4, Value.int (nI (dfN (wh i % 10) (cq % 10)))), (0, Value.ref h0), (1, Value.int (nI cq)), (3, Value.int (nI i))]) hx hb dX10_strain_113 rfl hl (by decide) rfl (fun ls hl => ?_)
                refine lv_iinc (v := nI (i + 1)) (lv' := [(3, Value.int (nI (i + 1))), (2, Value.int (nI (su + (wt i) * 2))), (5, Value.int (nI (dfN (wh i / 10) (cq / 10)))), (4, Value.int (nI (dfN (wh i % 10) (cq % 10)))), (0, Value.ref h0), (1, Value.int (nI cq))]) hx hb dX10_strain_114 hl (k := 5) rfl (nI_add i 1) (by decide) rfl (fun ls hl => ?_)
                refine lv_goto (tgt := 4) hx hb dX10_strain_117 (by decide) ?_
                exact ih (su + (wt i) * 2) (i + 1) (by omega) (by omega) (by omega) hWm hWt (by rw [hsu]; exact strN_y hs1 (shN_v (by omega) (by omega) (Or.inr (Or.inl ⟨c_22n, rfl⟩)))) (by omega) H locs (hP.sub [0, 1, 2, 3] rfl) (hD.sub [0, 1, 2, 3] (by decide) rfl) hS ls (lv_sub hl [4, 5, 1, 0] rfl)
            · skip
              have c_20n : (dfN (wh i % 10) (cq % 10) + dfN (wh i / 10) (cq / 10)) = 0 := (nI_eq (by omega) (by omega)).mp c_20
              refine lv_iconst (v := 4) hx hb dX10_strain_93 (by decide) ?_
              refine lv_goto (tgt := 111) hx hb dX10_strain_94 (by decide) ?_
              refine lv_imul hx hb dX10_strain_111 ?_
              refine lv_topi (fun z_27 ez_27 => ?_)
              obtain rfl : z_27 = nI ((wt i) * 4) := ez_27.trans (pk_mul (wt i) 4)
              refine lv_iadd hx hb dX10_strain_112 ?_
              refine lv_topi (fun z_28 ez_28 => ?_)
              obtain rfl : z_28 = nI (su + (wt i) * 4) := ez_28.trans (nI_add su ((wt i) * 4))
              refine lv_istore_n (lv' := [(2, Value.int (nI (su + (wt i) * 4))), (5, Value.int (nI (dfN (wh i / 10) (cq / 10)))), (4, Value.int (nI (dfN (wh i % 10) (cq % 10)))), (0, Value.ref h0), (1, Value.int (nI cq)), (3, Value.int (nI i))]) hx hb dX10_strain_113 rfl hl (by decide) rfl (fun ls hl => ?_)
              refine lv_iinc (v := nI (i + 1)) (lv' := [(3, Value.int (nI (i + 1))), (2, Value.int (nI (su + (wt i) * 4))), (5, Value.int (nI (dfN (wh i / 10) (cq / 10)))), (4, Value.int (nI (dfN (wh i % 10) (cq % 10)))), (0, Value.ref h0), (1, Value.int (nI cq))]) hx hb dX10_strain_114 hl (k := 5) rfl (nI_add i 1) (by decide) rfl (fun ls hl => ?_)
              refine lv_goto (tgt := 4) hx hb dX10_strain_117 (by decide) ?_
              exact ih (su + (wt i) * 4) (i + 1) (by omega) (by omega) (by omega) hWm hWt (by rw [hsu]; exact strN_y hs1 (shN_v (by omega) (by omega) (Or.inl ⟨c_20n, rfl⟩))) (by omega) H locs (hP.sub [0, 1, 2, 3] rfl) (hD.sub [0, 1, 2, 3] (by decide) rfl) hS ls (lv_sub hl [4, 5, 1, 0] rfl)
          · skip
            have c_17n : 1 < (dfN (wh i / 10) (cq / 10)) := nb_le (by omega) (by omega) c_17
            have c_17 := Int32.not_le.mp c_17
            refine lv_goto (tgt := 114) hx hb dX10_strain_75 (by decide) ?_
            refine lv_iinc (v := nI (i + 1)) (lv' := [(3, Value.int (nI (i + 1))), (5, Value.int (nI (dfN (wh i / 10) (cq / 10)))), (4, Value.int (nI (dfN (wh i % 10) (cq % 10)))), (0, Value.ref h0), (1, Value.int (nI cq)), (2, Value.int (nI su))]) hx hb dX10_strain_114 hl (k := 5) rfl (nI_add i 1) (by decide) rfl (fun ls hl => ?_)
            refine lv_goto (tgt := 4) hx hb dX10_strain_117 (by decide) ?_
            exact ih su (i + 1) (by omega) (by omega) (by omega) hWm hWt (hsu.trans (strN_n (Or.inr (shN_0 (Or.inr c_17n))))) (by omega) H locs (hP.sub [0, 1, 2, 3] rfl) (hD.sub [0, 1, 2, 3] (by decide) rfl) hS ls (lv_sub hl [3, 4, 5, 0] rfl)
      · skip
        refine lv_goto (tgt := 114) hx hb dX10_strain_22 (by decide) ?_
        refine lv_iinc (v := nI (i + 1)) (lv' := [(3, Value.int (nI (i + 1))), (0, Value.ref h0), (1, Value.int (nI cq)), (2, Value.int (nI su))]) hx hb dX10_strain_114 hl (k := 3) rfl (nI_add i 1) (by decide) rfl (fun ls hl => ?_)
        refine lv_goto (tgt := 4) hx hb dX10_strain_117 (by decide) ?_
        exact ih su (i + 1) (by omega) (by omega) (by omega) hWm hWt (hsu.trans (strN_n (Or.inl (fun q => c_3 (by rw [ev_2]; exact q))))) (by omega) H locs (hP.sub [0, 1, 2, 3] rfl) (hD.sub [0, 1, 2, 3] (by decide) rfl) hS ls (lv_sub hl [1, 2, 3, 0] rfl)
set_option maxHeartbeats 4000000 in
set_option maxRecDepth 100000 in
theorem t_strain (l : Launch) (D : va_G) (wt : Nat → Nat) (wh : Nat → Nat) (h0 : Nat) (m_tape : Nat) (ln : Nat) (s_thrown : Int32) (m_rule : Nat) (m_rules : Nat) (sn : Nat) (m_stair : Nat) (s_readStairs : Int32) (s_fault : Int32) (s_faultPlace : Int32) (w : Nat) (h : Nat) (m_low : Nat) (m_high : Nat) (m_crack : Nat) (bc : Nat) (m_weight : Nat) (m_fire : Nat) (m_crowd : Nat) (m_state : Nat) (m_where : Nat) (s_hours : Int32) (s_fees : Int32) (s_looks : Int32) (m_words : Nat) (s_end : Int32) (s_next : Int32) (s_kind : Int32) (s_which : Int32) (s_place : Int32) (s_read : Int32) (m_told : Nat) (m_breaks : Nat) (m_row : Nat) (m_tried : Nat) (m_steps : Nat) (m_paths : Nat) (y_state : ClassId) (f_state : Nat → Int32) (y_where : ClassId) (f_where : Nat → Int32) (y_weight : ClassId) (f_weight : Nat → Int32) (cq : Nat) (hbc : bc ≤ 10) (hcq : cq < 100) (hWm : ∀ b, b < bc → f_state b = 1 → f_where b = nI (wh b) ∧ wh b < 100) (hWt : CW bc f_weight wt) : cI l yX10_strain (.code yX10_strain cX10_strain 6 (some .int)) ({ frames := 1, cells := 0, slots := 0, locals := 20 }) D [(y_state, .int), (y_where, .int), (y_weight, .int)] [(h0, Sum.inr (9, [Value.ref m_tape, Value.int (nI ln), Value.int s_thrown, Value.ref m_rule, Value.ref m_rules, Value.int (nI sn), Value.ref m_stair, Value.int s_readStairs, Value.int s_fault, Value.int s_faultPlace, Value.int (nI w), Value.int (nI h), Value.ref m_low, Value.ref m_high, Value.ref m_crack, Value.int (nI bc), Value.ref m_weight, Value.ref m_fire, Value.ref m_crowd, Value.ref m_state, Value.ref m_where, Value.int s_hours, Value.int s_fees, Value.int s_looks, Value.ref m_words, Value.int s_end, Value.int s_next, Value.int s_kind, Value.int s_which, Value.int s_place, Value.int s_read, Value.ref m_told, Value.ref m_breaks, Value.ref m_row, Value.ref m_tried, Value.ref m_steps, Value.ref m_paths])), (m_state, Sum.inl (y_state, 10, Sum.inl f_state)), (m_where, Sum.inl (y_where, 10, Sum.inl f_where)), (m_weight, Sum.inl (y_weight, 10, Sum.inl f_weight))] xT [Value.ref h0, Value.int (nI cq)] (S := Unit) (fun r _ => r = nI (strN f_state wt wh cq bc) ∧ strN f_state wt wh cq bc ≤ 2000) (fun _ => []) (fun _ => [(h0, Sum.inr (9, [Value.ref m_tape, Value.int (nI ln), Value.int s_thrown, Value.ref m_rule, Value.ref m_rules, Value.int (nI sn), Value.ref m_stair, Value.int s_readStairs, Value.int s_fault, Value.int s_faultPlace, Value.int (nI w), Value.int (nI h), Value.ref m_low, Value.ref m_high, Value.ref m_crack, Value.int (nI bc), Value.ref m_weight, Value.ref m_fire, Value.ref m_crowd, Value.ref m_state, Value.ref m_where, Value.int s_hours, Value.int s_fees, Value.int s_looks, Value.ref m_words, Value.int s_end, Value.int s_next, Value.int s_kind, Value.int s_which, Value.int s_place, Value.int s_read, Value.ref m_told, Value.ref m_breaks, Value.ref m_row, Value.ref m_tried, Value.ref m_steps, Value.ref m_paths])), (m_state, Sum.inl (y_state, 10, Sum.inl f_state)), (m_where, Sum.inl (y_where, 10, Sum.inl f_where)), (m_weight, Sum.inl (y_weight, 10, Sum.inl f_weight))]) := by
  intro sz
  refine Met.ofW (cc := cX10_strain) (maxL := 6) (ret := (some .int)) (by decide) rfl ?_
  intro p e s m args below meth c s₁ B hml hv
  obtain ⟨rfl, hsz, hP, hK, hD0, hX⟩ := hv
  have hx := B.exec
  have hb := B.bytes
  have hr := B.returns
  have hts0 := atoms_spec (ws := .code yX10_strain cX10_strain 6 (some .int) :: gw) B.pre
  have hts := fun (w : Cond) (h : w ∈ gw) => hts0 w (List.mem_cons_of_mem _ h)
  have hown : s.vm.findClass RX10 = some m.cls := findClass_of_methodNamed B.named
  have hlocks := B.notSynchronized
  have F : mFix p s m _ c cX10_strain 6 RX10 := ⟨hx, hb, hml, hown, hts⟩
  subst hsz
  have hD := hD0.self (sz := s.heap.size)
  generalize hAe : va_A [(h0, Sum.inr (9, [Value.ref m_tape, Value.int (nI ln), Value.int s_thrown, Value.ref m_rule, Value.ref m_rules, Value.int (nI sn), Value.ref m_stair, Value.int s_readStairs, Value.int s_fault, Value.int s_faultPlace, Value.int (nI w), Value.int (nI h), Value.ref m_low, Value.ref m_high, Value.ref m_crack, Value.int (nI bc), Value.ref m_weight, Value.ref m_fire, Value.ref m_crowd, Value.ref m_state, Value.ref m_where, Value.int s_hours, Value.int s_fees, Value.int s_looks, Value.ref m_words, Value.int s_end, Value.int s_next, Value.int s_kind, Value.int s_which, Value.int s_place, Value.int s_read, Value.ref m_told, Value.ref m_breaks, Value.ref m_row, Value.ref m_tried, Value.ref m_steps, Value.ref m_paths])), (m_state, Sum.inl (y_state, 10, Sum.inl f_state)), (m_where, Sum.inl (y_where, 10, Sum.inl f_where)), (m_weight, Sum.inl (y_weight, 10, Sum.inl f_weight))] s.heap.size = A at hD hX ⊢
  have hA : ∀ q : Nat, s.heap.size ≤ q → A q := fun q h => by rw [← hAe]; exact Or.inr h
  have hS : va_S A s.heap s.heap [] := va_S.rf
  have hl := lv_entry ([Value.ref h0, Value.int (nI cq)]) (n := 6) (Nat.le_of_ble_eq_true rfl)
  rw [lg_entry_eq]
  generalize (lg_sl ([Value.ref h0, Value.int (nI cq)]) ++ List.replicate (6 - (lg_sl ([Value.ref h0, Value.int (nI cq)])).length) Slot.unset).toArray = ls at hl ⊢
  have hl : lv_has ls 6 [(0, Value.ref h0), (1, Value.int (nI cq))] := hl
  have hP : va_P D vwCl [(h0, Sum.inr (9, [Value.ref m_tape, Value.int (nI ln), Value.int s_thrown, Value.ref m_rule, Value.ref m_rules, Value.int (nI sn), Value.ref m_stair, Value.int s_readStairs, Value.int s_fault, Value.int s_faultPlace, Value.int (nI w), Value.int (nI h), Value.ref m_low, Value.ref m_high, Value.ref m_crack, Value.int (nI bc), Value.ref m_weight, Value.ref m_fire, Value.ref m_crowd, Value.ref m_state, Value.ref m_where, Value.int s_hours, Value.int s_fees, Value.int s_looks, Value.ref m_words, Value.int s_end, Value.int s_next, Value.int s_kind, Value.int s_which, Value.int s_place, Value.int s_read, Value.ref m_told, Value.ref m_breaks, Value.ref m_row, Value.ref m_tried, Value.ref m_steps, Value.ref m_paths])), (m_state, Sum.inl (y_state, 10, Sum.inl f_state)), (m_where, Sum.inl (y_where, 10, Sum.inl f_where)), (m_weight, Sum.inl (y_weight, 10, Sum.inl f_weight))] s.heap := hP
  refine lv_iconst (v := 0) hx hb dX10_strain_0 (by decide) ?_
  refine lv_istore_n (lv' := [(2, Value.int 0), (0, Value.ref h0), (1, Value.int (nI cq))]) hx hb dX10_strain_1 rfl hl (by decide) rfl (fun ls hl => ?_)
  refine lv_iconst (v := 0) hx hb dX10_strain_2 (by decide) ?_
  refine lv_istore_n (lv' := [(3, Value.int 0), (2, Value.int 0), (0, Value.ref h0), (1, Value.int (nI cq))]) hx hb dX10_strain_3 rfl hl (by decide) rfl (fun ls hl => ?_)
  refine lp_t_strain F hA h0 m_tape ln s_thrown m_rule m_rules sn m_stair s_readStairs s_fault s_faultPlace w h m_low m_high m_crack bc m_weight m_fire m_crowd m_state m_where s_hours s_fees s_looks m_words s_end s_next s_kind s_which s_place s_read m_told m_breaks m_row m_tried m_steps m_paths y_state f_state y_where f_where y_weight f_weight cq wt wh (hK.sub [0, 1, 2] rfl) (fun su_1 h_2 H locs hP hD hS ls hl => ?_) _ 0 0 (by omega) (by omega) (by omega) hWm hWt rfl (Nat.lt_succ_self _) _ _ (hP.sub [0, 1, 2, 3] rfl) (hD.sub [0, 1, 2, 3] (by decide) rfl) hS ls (lv_sub hl [2, 3, 1, 0] rfl)
  have h_2 : su_1 = strN f_state wt wh cq bc := h_2
  refine lv_iload_n hx hb dX10_strain_120 rfl (lv_at hl 0 rfl) ?_
  have hP9 := hP.sub (ws' := [(h0, Sum.inr (9, [Value.ref m_tape, Value.int (nI ln), Value.int s_thrown, Value.ref m_rule, Value.ref m_rules, Value.int (nI sn), Value.ref m_stair, Value.int s_readStairs, Value.int s_fault, Value.int s_faultPlace, Value.int (nI w), Value.int (nI h), Value.ref m_low, Value.ref m_high, Value.ref m_crack, Value.int (nI bc), Value.ref m_weight, Value.ref m_fire, Value.ref m_crowd, Value.ref m_state, Value.ref m_where, Value.int s_hours, Value.int s_fees, Value.int s_looks, Value.ref m_words, Value.int s_end, Value.int s_next, Value.int s_kind, Value.int s_which, Value.int s_place, Value.int s_read, Value.ref m_told, Value.ref m_breaks, Value.ref m_row, Value.ref m_tried, Value.ref m_steps, Value.ref m_paths])), (m_state, Sum.inl (y_state, 10, Sum.inl f_state)), (m_where, Sum.inl (y_where, 10, Sum.inl f_where)), (m_weight, Sum.inl (y_weight, 10, Sum.inl f_weight))]) [0, 1, 2, 3] rfl
  have hD9 := hD.sub (ws' := [(h0, Sum.inr (9, [Value.ref m_tape, Value.int (nI ln), Value.int s_thrown, Value.ref m_rule, Value.ref m_rules, Value.int (nI sn), Value.ref m_stair, Value.int s_readStairs, Value.int s_fault, Value.int s_faultPlace, Value.int (nI w), Value.int (nI h), Value.ref m_low, Value.ref m_high, Value.ref m_crack, Value.int (nI bc), Value.ref m_weight, Value.ref m_fire, Value.ref m_crowd, Value.ref m_state, Value.ref m_where, Value.int s_hours, Value.int s_fees, Value.int s_looks, Value.ref m_words, Value.int s_end, Value.int s_next, Value.int s_kind, Value.int s_which, Value.int s_place, Value.int s_read, Value.ref m_told, Value.ref m_breaks, Value.ref m_row, Value.ref m_tried, Value.ref m_steps, Value.ref m_paths])), (m_state, Sum.inl (y_state, 10, Sum.inl f_state)), (m_where, Sum.inl (y_where, 10, Sum.inl f_where)), (m_weight, Sum.inl (y_weight, 10, Sum.inl f_weight))]) [0, 1, 2, 3] (by decide) rfl
  have hK9 := hK.sub (tys' := []) [] rfl
  refine W.widen (k := 0) (n := 0) (by decide) (by decide) ?_
  exact W.iret (v := nI su_1) hx hb hr (fun t ht hW => ⟨⟨(nI su_1), (), rfl, ⟨congrArg nI h_2, Nat.le_trans (strN_le bc (fun b hb => (hWt b hb).2)) (by omega)⟩, by rw [ht]; exact hP9, va_K.moved hW.alike hK9, hD9⟩, hS.F ht⟩) hS.2.2 dX10_strain_121
set_option maxHeartbeats 4000000 in
set_option maxRecDepth 100000 in
theorem t_bears (l : Launch) (D : va_G) (h0 : Nat) (m_tape : Nat) (ln : Nat) (s_thrown : Int32) (m_rule : Nat) (m_rules : Nat) (sn : Nat) (m_stair : Nat) (s_readStairs : Int32) (s_fault : Int32) (s_faultPlace : Int32) (w : Nat) (h : Nat) (m_low : Nat) (m_high : Nat) (m_crack : Nat) (bc : Nat) (m_weight : Nat) (m_fire : Nat) (m_crowd : Nat) (m_state : Nat) (m_where : Nat) (s_hours : Int32) (s_fees : Int32) (s_looks : Int32) (m_words : Nat) (s_end : Int32) (s_next : Int32) (s_kind : Int32) (s_which : Int32) (s_place : Int32) (s_read : Int32) (m_told : Nat) (m_breaks : Nat) (m_row : Nat) (m_tried : Nat) (m_steps : Nat) (m_paths : Nat) (y_low : ClassId) (f_low : Nat → Int32) (y_rule : ClassId) (f_rule : Nat → Int32) (j : Nat) (hj : j < 100) : cI l yX10_bears (.code yX10_bears cX10_bears 2 (some .int)) ({ frames := 0, cells := 0, slots := 0, locals := 0 }) D [(y_low, .int), (y_rule, .int)] [(h0, Sum.inr (9, [Value.ref m_tape, Value.int (nI ln), Value.int s_thrown, Value.ref m_rule, Value.ref m_rules, Value.int (nI sn), Value.ref m_stair, Value.int s_readStairs, Value.int s_fault, Value.int s_faultPlace, Value.int (nI w), Value.int (nI h), Value.ref m_low, Value.ref m_high, Value.ref m_crack, Value.int (nI bc), Value.ref m_weight, Value.ref m_fire, Value.ref m_crowd, Value.ref m_state, Value.ref m_where, Value.int s_hours, Value.int s_fees, Value.int s_looks, Value.ref m_words, Value.int s_end, Value.int s_next, Value.int s_kind, Value.int s_which, Value.int s_place, Value.int s_read, Value.ref m_told, Value.ref m_breaks, Value.ref m_row, Value.ref m_tried, Value.ref m_steps, Value.ref m_paths])), (m_low, Sum.inl (y_low, 100, Sum.inl f_low)), (m_rule, Sum.inl (y_rule, 8, Sum.inl f_rule))] xT [Value.ref h0, Value.int (nI j)] (S := Unit) (fun r _ => r = brI f_low (f_rule 0) j) (fun _ => []) (fun _ => [(h0, Sum.inr (9, [Value.ref m_tape, Value.int (nI ln), Value.int s_thrown, Value.ref m_rule, Value.ref m_rules, Value.int (nI sn), Value.ref m_stair, Value.int s_readStairs, Value.int s_fault, Value.int s_faultPlace, Value.int (nI w), Value.int (nI h), Value.ref m_low, Value.ref m_high, Value.ref m_crack, Value.int (nI bc), Value.ref m_weight, Value.ref m_fire, Value.ref m_crowd, Value.ref m_state, Value.ref m_where, Value.int s_hours, Value.int s_fees, Value.int s_looks, Value.ref m_words, Value.int s_end, Value.int s_next, Value.int s_kind, Value.int s_which, Value.int s_place, Value.int s_read, Value.ref m_told, Value.ref m_breaks, Value.ref m_row, Value.ref m_tried, Value.ref m_steps, Value.ref m_paths])), (m_low, Sum.inl (y_low, 100, Sum.inl f_low)), (m_rule, Sum.inl (y_rule, 8, Sum.inl f_rule))]) := by
  intro sz
  refine Met.ofW (cc := cX10_bears) (maxL := 2) (ret := (some .int)) (by decide) rfl ?_
  intro p e s m args below meth c s₁ B hml hv
  obtain ⟨rfl, hsz, hP, hK, hD0, hX⟩ := hv
  have hx := B.exec
  have hb := B.bytes
  have hr := B.returns
  have hts0 := atoms_spec (ws := .code yX10_bears cX10_bears 2 (some .int) :: gw) B.pre
  have hts := fun (w : Cond) (h : w ∈ gw) => hts0 w (List.mem_cons_of_mem _ h)
  have hown : s.vm.findClass RX10 = some m.cls := findClass_of_methodNamed B.named
  have hlocks := B.notSynchronized
  have F : mFix p s m _ c cX10_bears 2 RX10 := ⟨hx, hb, hml, hown, hts⟩
  subst hsz
  have hD := hD0.self (sz := s.heap.size)
  generalize hAe : va_A [(h0, Sum.inr (9, [Value.ref m_tape, Value.int (nI ln), Value.int s_thrown, Value.ref m_rule, Value.ref m_rules, Value.int (nI sn), Value.ref m_stair, Value.int s_readStairs, Value.int s_fault, Value.int s_faultPlace, Value.int (nI w), Value.int (nI h), Value.ref m_low, Value.ref m_high, Value.ref m_crack, Value.int (nI bc), Value.ref m_weight, Value.ref m_fire, Value.ref m_crowd, Value.ref m_state, Value.ref m_where, Value.int s_hours, Value.int s_fees, Value.int s_looks, Value.ref m_words, Value.int s_end, Value.int s_next, Value.int s_kind, Value.int s_which, Value.int s_place, Value.int s_read, Value.ref m_told, Value.ref m_breaks, Value.ref m_row, Value.ref m_tried, Value.ref m_steps, Value.ref m_paths])), (m_low, Sum.inl (y_low, 100, Sum.inl f_low)), (m_rule, Sum.inl (y_rule, 8, Sum.inl f_rule))] s.heap.size = A at hD hX ⊢
  have hA : ∀ q : Nat, s.heap.size ≤ q → A q := fun q h => by rw [← hAe]; exact Or.inr h
  have hS : va_S A s.heap s.heap [] := va_S.rf
  have hl := lv_entry ([Value.ref h0, Value.int (nI j)]) (n := 2) (Nat.le_of_ble_eq_true rfl)
  rw [lg_entry_eq]
  generalize (lg_sl ([Value.ref h0, Value.int (nI j)]) ++ List.replicate (2 - (lg_sl ([Value.ref h0, Value.int (nI j)])).length) Slot.unset).toArray = ls at hl ⊢
  have hl : lv_has ls 2 [(0, Value.ref h0), (1, Value.int (nI j))] := hl
  have hP : va_P D vwCl [(h0, Sum.inr (9, [Value.ref m_tape, Value.int (nI ln), Value.int s_thrown, Value.ref m_rule, Value.ref m_rules, Value.int (nI sn), Value.ref m_stair, Value.int s_readStairs, Value.int s_fault, Value.int s_faultPlace, Value.int (nI w), Value.int (nI h), Value.ref m_low, Value.ref m_high, Value.ref m_crack, Value.int (nI bc), Value.ref m_weight, Value.ref m_fire, Value.ref m_crowd, Value.ref m_state, Value.ref m_where, Value.int s_hours, Value.int s_fees, Value.int s_looks, Value.ref m_words, Value.int s_end, Value.int s_next, Value.int s_kind, Value.int s_which, Value.int s_place, Value.int s_read, Value.ref m_told, Value.ref m_breaks, Value.ref m_row, Value.ref m_tried, Value.ref m_steps, Value.ref m_paths])), (m_low, Sum.inl (y_low, 100, Sum.inl f_low)), (m_rule, Sum.inl (y_rule, 8, Sum.inl f_rule))] s.heap := hP
  refine lv_aload_n hx hb dX10_bears_0 rfl (lv_at hl 0 rfl) ?_
  refine va_get (D := D) (ci := 9) (v := Value.ref m_low) (C := RX10) (T := TX10) (N := 37) hx hb hts inG_X10 hown hK hP 0 rfl rfl 12 (by decide) (hts _ kw_4_207) (fun _ h9 => h9) rfl dX10_bears_1 ?_
  refine lv_iload_n hx hb dX10_bears_4 rfl (lv_at hl 1 rfl) ?_
  refine m_iald hx hb hK hP 1 0 rfl rfl j rfl (by omega) (by decide) dX10_bears_5 ?_
  refine lv_topi (fun v_1 ev_1 => ?_)
  refine lv_aload_n hx hb dX10_bears_6 rfl (lv_at hl 0 rfl) ?_
  refine va_get (D := D) (ci := 9) (v := Value.ref m_low) (C := RX10) (T := TX10) (N := 37) hx hb hts inG_X10 hown hK hP 0 rfl rfl 12 (by decide) (hts _ kw_4_207) (fun _ h9 => h9) rfl dX10_bears_7 ?_
  refine lv_iload_n hx hb dX10_bears_10 rfl (lv_at hl 1 rfl) ?_
  refine m_iald hx hb hK hP 1 0 rfl rfl j rfl (by omega) (by decide) dX10_bears_11 ?_
  refine lv_topi (fun v_2 ev_2 => ?_)
  refine lv_imul hx hb dX10_bears_12 ?_
  refine lv_topi (fun z_3 ez_3 => ?_)
  refine lv_aload_n hx hb dX10_bears_13 rfl (lv_at hl 0 rfl) ?_
  refine va_get (D := D) (ci := 9) (v := Value.ref m_rule) (C := RX10) (T := TX10) (N := 37) hx hb hts inG_X10 hown hK hP 0 rfl rfl 3 (by decide) (hts _ kw_4_198) (fun _ h9 => h9) rfl dX10_bears_14 ?_
  refine lv_iconst (v := 0) hx hb dX10_bears_17 (by decide) ?_
  refine m_iald hx hb hK hP 2 1 rfl rfl 0 rfl (by decide) (by decide) dX10_bears_18 ?_
  refine lv_topi (fun v_4 ev_4 => ?_)
  refine lv_imul hx hb dX10_bears_19 ?_
  refine lv_topi (fun z_5 ez_5 => ?_)
  refine lv_bipush (v := 100) hx hb dX10_bears_20 (by decide) ?_
  refine lv_idiv hx hb dX10_bears_22 (by decide) ?_
  refine lv_topi (fun z_6 ez_6 => ?_)
  have hP9 := hP.sub (ws' := [(h0, Sum.inr (9, [Value.ref m_tape, Value.int (nI ln), Value.int s_thrown, Value.ref m_rule, Value.ref m_rules, Value.int (nI sn), Value.ref m_stair, Value.int s_readStairs, Value.int s_fault, Value.int s_faultPlace, Value.int (nI w), Value.int (nI h), Value.ref m_low, Value.ref m_high, Value.ref m_crack, Value.int (nI bc), Value.ref m_weight, Value.ref m_fire, Value.ref m_crowd, Value.ref m_state, Value.ref m_where, Value.int s_hours, Value.int s_fees, Value.int s_looks, Value.ref m_words, Value.int s_end, Value.int s_next, Value.int s_kind, Value.int s_which, Value.int s_place, Value.int s_read, Value.ref m_told, Value.ref m_breaks, Value.ref m_row, Value.ref m_tried, Value.ref m_steps, Value.ref m_paths])), (m_low, Sum.inl (y_low, 100, Sum.inl f_low)), (m_rule, Sum.inl (y_rule, 8, Sum.inl f_rule))]) [0, 1, 2] rfl
  have hD9 := hD.sub (ws' := [(h0, Sum.inr (9, [Value.ref m_tape, Value.int (nI ln), Value.int s_thrown, Value.ref m_rule, Value.ref m_rules, Value.int (nI sn), Value.ref m_stair, Value.int s_readStairs, Value.int s_fault, Value.int s_faultPlace, Value.int (nI w), Value.int (nI h), Value.ref m_low, Value.ref m_high, Value.ref m_crack, Value.int (nI bc), Value.ref m_weight, Value.ref m_fire, Value.ref m_crowd, Value.ref m_state, Value.ref m_where, Value.int s_hours, Value.int s_fees, Value.int s_looks, Value.ref m_words, Value.int s_end, Value.int s_next, Value.int s_kind, Value.int s_which, Value.int s_place, Value.int s_read, Value.ref m_told, Value.ref m_breaks, Value.ref m_row, Value.ref m_tried, Value.ref m_steps, Value.ref m_paths])), (m_low, Sum.inl (y_low, 100, Sum.inl f_low)), (m_rule, Sum.inl (y_rule, 8, Sum.inl f_rule))]) [0, 1, 2] (by decide) rfl
  have hK9 := hK.sub (tys' := []) [] rfl
  refine W.widen (k := 0) (n := 0) (by decide) (by decide) ?_
  exact W.iret (v := z_6) hx hb hr (fun t ht hW => ⟨⟨z_6, (), rfl, (by unfold brI; simp only [ev_1, ev_2, ez_3, ev_4, ez_5, ez_6]), by rw [ht]; exact hP9, va_K.moved hW.alike hK9, hD9⟩, hS.F ht⟩) hS.2.2 dX10_bears_23
set_option maxHeartbeats 4000000 in
set_option maxRecDepth 100000 in
theorem t_isOpen (l : Launch) (D : va_G) (h0 : Nat) (m_tape : Nat) (ln : Nat) (s_thrown : Int32) (m_rule : Nat) (m_rules : Nat) (sn : Nat) (m_stair : Nat) (s_readStairs : Int32) (s_fault : Int32) (s_faultPlace : Int32) (w : Nat) (h : Nat) (m_low : Nat) (m_high : Nat) (m_crack : Nat) (bc : Nat) (m_weight : Nat) (m_fire : Nat) (m_crowd : Nat) (m_state : Nat) (m_where : Nat) (s_hours : Int32) (s_fees : Int32) (s_looks : Int32) (m_words : Nat) (s_end : Int32) (s_next : Int32) (s_kind : Int32) (s_which : Int32) (s_place : Int32) (s_read : Int32) (m_told : Nat) (m_breaks : Nat) (m_row : Nat) (m_tried : Nat) (m_steps : Nat) (m_paths : Nat) (y_low : ClassId) (f_low : Nat → Int32) (y_crack : ClassId) (f_crack : Nat → Int32) (j : Nat) (hj : j < 100) : cI l yX10_isOpen (.code yX10_isOpen cX10_isOpen 2 (some .boolean)) ({ frames := 0, cells := 0, slots := 0, locals := 0 }) D [(y_low, .int), (y_crack, .boolean)] [(h0, Sum.inr (9, [Value.ref m_tape, Value.int (nI ln), Value.int s_thrown, Value.ref m_rule, Value.ref m_rules, Value.int (nI sn), Value.ref m_stair, Value.int s_readStairs, Value.int s_fault, Value.int s_faultPlace, Value.int (nI w), Value.int (nI h), Value.ref m_low, Value.ref m_high, Value.ref m_crack, Value.int (nI bc), Value.ref m_weight, Value.ref m_fire, Value.ref m_crowd, Value.ref m_state, Value.ref m_where, Value.int s_hours, Value.int s_fees, Value.int s_looks, Value.ref m_words, Value.int s_end, Value.int s_next, Value.int s_kind, Value.int s_which, Value.int s_place, Value.int s_read, Value.ref m_told, Value.ref m_breaks, Value.ref m_row, Value.ref m_tried, Value.ref m_steps, Value.ref m_paths])), (m_low, Sum.inl (y_low, 100, Sum.inl f_low)), (m_crack, Sum.inl (y_crack, 100, Sum.inl f_crack))] xT [Value.ref h0, Value.int (nI j)] (S := Unit) (fun r _ => (r = 1 ∧ (0 < f_low j ∧ f_crack j = 0)) ∨ (r = 0 ∧ ¬ (0 < f_low j ∧ f_crack j = 0))) (fun _ => []) (fun _ => [(h0, Sum.inr (9, [Value.ref m_tape, Value.int (nI ln), Value.int s_thrown, Value.ref m_rule, Value.ref m_rules, Value.int (nI sn), Value.ref m_stair, Value.int s_readStairs, Value.int s_fault, Value.int s_faultPlace, Value.int (nI w), Value.int (nI h), Value.ref m_low, Value.ref m_high, Value.ref m_crack, Value.int (nI bc), Value.ref m_weight, Value.ref m_fire, Value.ref m_crowd, Value.ref m_state, Value.ref m_where, Value.int s_hours, Value.int s_fees, Value.int s_looks, Value.ref m_words, Value.int s_end, Value.int s_next, Value.int s_kind, Value.int s_which, Value.int s_place, Value.int s_read, Value.ref m_told, Value.ref m_breaks, Value.ref m_row, Value.ref m_tried, Value.ref m_steps, Value.ref m_paths])), (m_low, Sum.inl (y_low, 100, Sum.inl f_low)), (m_crack, Sum.inl (y_crack, 100, Sum.inl f_crack))]) := by
  intro sz
  refine Met.ofW (cc := cX10_isOpen) (maxL := 2) (ret := (some .boolean)) (by decide) rfl ?_
  intro p e s m args below meth c s₁ B hml hv
  obtain ⟨rfl, hsz, hP, hK, hD0, hX⟩ := hv
  have hx := B.exec
  have hb := B.bytes
  have hr := B.returns
  have hts0 := atoms_spec (ws := .code yX10_isOpen cX10_isOpen 2 (some .boolean) :: gw) B.pre
  have hts := fun (w : Cond) (h : w ∈ gw) => hts0 w (List.mem_cons_of_mem _ h)
  have hown : s.vm.findClass RX10 = some m.cls := findClass_of_methodNamed B.named
  have hlocks := B.notSynchronized
  have F : mFix p s m _ c cX10_isOpen 2 RX10 := ⟨hx, hb, hml, hown, hts⟩
  subst hsz
  have hD := hD0.self (sz := s.heap.size)
  generalize hAe : va_A [(h0, Sum.inr (9, [Value.ref m_tape, Value.int (nI ln), Value.int s_thrown, Value.ref m_rule, Value.ref m_rules, Value.int (nI sn), Value.ref m_stair, Value.int s_readStairs, Value.int s_fault, Value.int s_faultPlace, Value.int (nI w), Value.int (nI h), Value.ref m_low, Value.ref m_high, Value.ref m_crack, Value.int (nI bc), Value.ref m_weight, Value.ref m_fire, Value.ref m_crowd, Value.ref m_state, Value.ref m_where, Value.int s_hours, Value.int s_fees, Value.int s_looks, Value.ref m_words, Value.int s_end, Value.int s_next, Value.int s_kind, Value.int s_which, Value.int s_place, Value.int s_read, Value.ref m_told, Value.ref m_breaks, Value.ref m_row, Value.ref m_tried, Value.ref m_steps, Value.ref m_paths])), (m_low, Sum.inl (y_low, 100, Sum.inl f_low)), (m_crack, Sum.inl (y_crack, 100, Sum.inl f_crack))] s.heap.size = A at hD hX ⊢
  have hA : ∀ q : Nat, s.heap.size ≤ q → A q := fun q h => by rw [← hAe]; exact Or.inr h
  have hS : va_S A s.heap s.heap [] := va_S.rf
  have hl := lv_entry ([Value.ref h0, Value.int (nI j)]) (n := 2) (Nat.le_of_ble_eq_true rfl)
  rw [lg_entry_eq]
  generalize (lg_sl ([Value.ref h0, Value.int (nI j)]) ++ List.replicate (2 - (lg_sl ([Value.ref h0, Value.int (nI j)])).length) Slot.unset).toArray = ls at hl ⊢
  have hl : lv_has ls 2 [(0, Value.ref h0), (1, Value.int (nI j))] := hl
  have hP : va_P D vwCl [(h0, Sum.inr (9, [Value.ref m_tape, Value.int (nI ln), Value.int s_thrown, Value.ref m_rule, Value.ref m_rules, Value.int (nI sn), Value.ref m_stair, Value.int s_readStairs, Value.int s_fault, Value.int s_faultPlace, Value.int (nI w), Value.int (nI h), Value.ref m_low, Value.ref m_high, Value.ref m_crack, Value.int (nI bc), Value.ref m_weight, Value.ref m_fire, Value.ref m_crowd, Value.ref m_state, Value.ref m_where, Value.int s_hours, Value.int s_fees, Value.int s_looks, Value.ref m_words, Value.int s_end, Value.int s_next, Value.int s_kind, Value.int s_which, Value.int s_place, Value.int s_read, Value.ref m_told, Value.ref m_breaks, Value.ref m_row, Value.ref m_tried, Value.ref m_steps, Value.ref m_paths])), (m_low, Sum.inl (y_low, 100, Sum.inl f_low)), (m_crack, Sum.inl (y_crack, 100, Sum.inl f_crack))] s.heap := hP
  refine lv_aload_n hx hb dX10_isOpen_0 rfl (lv_at hl 0 rfl) ?_
  refine va_get (D := D) (ci := 9) (v := Value.ref m_low) (C := RX10) (T := TX10) (N := 37) hx hb hts inG_X10 hown hK hP 0 rfl rfl 12 (by decide) (hts _ kw_4_207) (fun _ h9 => h9) rfl dX10_isOpen_1 ?_
  refine lv_iload_n hx hb dX10_isOpen_4 rfl (lv_at hl 1 rfl) ?_
  refine m_iald hx hb hK hP 1 0 rfl rfl j rfl (by omega) (by decide) dX10_isOpen_5 ?_
  refine lv_topi (fun v_1 ev_1 => ?_)
  refine lv_if_le (tgt := 22) hx hb dX10_isOpen_6 (by decide) (fun c_2 => ?_) (fun c_2 => ?_)
  · skip
    have c_2 := Int32.not_lt.mpr c_2
    refine lv_iconst (v := 0) hx hb dX10_isOpen_22 (by decide) ?_
    have hP9 := hP.sub (ws' := [(h0, Sum.inr (9, [Value.ref m_tape, Value.int (nI ln), Value.int s_thrown, Value.ref m_rule, Value.ref m_rules, Value.int (nI sn), Value.ref m_stair, Value.int s_readStairs, Value.int s_fault, Value.int s_faultPlace, Value.int (nI w), Value.int (nI h), Value.ref m_low, Value.ref m_high, Value.ref m_crack, Value.int (nI bc), Value.ref m_weight, Value.ref m_fire, Value.ref m_crowd, Value.ref m_state, Value.ref m_where, Value.int s_hours, Value.int s_fees, Value.int s_looks, Value.ref m_words, Value.int s_end, Value.int s_next, Value.int s_kind, Value.int s_which, Value.int s_place, Value.int s_read, Value.ref m_told, Value.ref m_breaks, Value.ref m_row, Value.ref m_tried, Value.ref m_steps, Value.ref m_paths])), (m_low, Sum.inl (y_low, 100, Sum.inl f_low)), (m_crack, Sum.inl (y_crack, 100, Sum.inl f_crack))]) [0, 1, 2] rfl
    have hD9 := hD.sub (ws' := [(h0, Sum.inr (9, [Value.ref m_tape, Value.int (nI ln), Value.int s_thrown, Value.ref m_rule, Value.ref m_rules, Value.int (nI sn), Value.ref m_stair, Value.int s_readStairs, Value.int s_fault, Value.int s_faultPlace, Value.int (nI w), Value.int (nI h), Value.ref m_low, Value.ref m_high, Value.ref m_crack, Value.int (nI bc), Value.ref m_weight, Value.ref m_fire, Value.ref m_crowd, Value.ref m_state, Value.ref m_where, Value.int s_hours, Value.int s_fees, Value.int s_looks, Value.ref m_words, Value.int s_end, Value.int s_next, Value.int s_kind, Value.int s_which, Value.int s_place, Value.int s_read, Value.ref m_told, Value.ref m_breaks, Value.ref m_row, Value.ref m_tried, Value.ref m_steps, Value.ref m_paths])), (m_low, Sum.inl (y_low, 100, Sum.inl f_low)), (m_crack, Sum.inl (y_crack, 100, Sum.inl f_crack))]) [0, 1, 2] (by decide) rfl
    have hK9 := hK.sub (tys' := []) [] rfl
    refine W.widen (k := 0) (n := 0) (by decide) (by decide) ?_
    exact W.zret (v := 0) hx hb hr rfl (fun t ht hW => ⟨⟨0, (), rfl, Or.inr ⟨rfl, fun q => c_2 (by rw [ev_1]; exact q.1)⟩, by rw [ht]; exact hP9, va_K.moved hW.alike hK9, hD9⟩, hS.F ht⟩) hS.2.2 dX10_isOpen_23
  · skip
    have c_2 := Int32.not_le.mp c_2
    refine lv_aload_n hx hb dX10_isOpen_9 rfl (lv_at hl 0 rfl) ?_
    refine va_get (D := D) (ci := 9) (v := Value.ref m_crack) (C := RX10) (T := TX10) (N := 37) hx hb hts inG_X10 hown hK hP 0 rfl rfl 14 (by decide) (hts _ kw_4_209) (fun _ h9 => h9) rfl dX10_isOpen_10 ?_
    refine lv_iload_n hx hb dX10_isOpen_13 rfl (lv_at hl 1 rfl) ?_
    refine m_zald hx hb hK hP 2 1 rfl rfl j rfl (by omega) (by decide) dX10_isOpen_14 ?_
    refine lv_topi (fun v_3 ev_3 => ?_)
    refine lv_if_ne (tgt := 22) hx hb dX10_isOpen_15 (by decide) (fun c_4 => ?_) (fun c_4 => ?_)
    · skip
      refine lv_iconst (v := 0) hx hb dX10_isOpen_22 (by decide) ?_
      have hP9 := hP.sub (ws' := [(h0, Sum.inr (9, [Value.ref m_tape, Value.int (nI ln), Value.int s_thrown, Value.ref m_rule, Value.ref m_rules, Value.int (nI sn), Value.ref m_stair, Value.int s_readStairs, Value.int s_fault, Value.int s_faultPlace, Value.int (nI w), Value.int (nI h), Value.ref m_low, Value.ref m_high, Value.ref m_crack, Value.int (nI bc), Value.ref m_weight, Value.ref m_fire, Value.ref m_crowd, Value.ref m_state, Value.ref m_where, Value.int s_hours, Value.int s_fees, Value.int s_looks, Value.ref m_words, Value.int s_end, Value.int s_next, Value.int s_kind, Value.int s_which, Value.int s_place, Value.int s_read, Value.ref m_told, Value.ref m_breaks, Value.ref m_row, Value.ref m_tried, Value.ref m_steps, Value.ref m_paths])), (m_low, Sum.inl (y_low, 100, Sum.inl f_low)), (m_crack, Sum.inl (y_crack, 100, Sum.inl f_crack))]) [0, 1, 2] rfl
      have hD9 := hD.sub (ws' := [(h0, Sum.inr (9, [Value.ref m_tape, Value.int (nI ln), Value.int s_thrown, Value.ref m_rule, Value.ref m_rules, Value.int (nI sn), Value.ref m_stair, Value.int s_readStairs, Value.int s_fault, Value.int s_faultPlace, Value.int (nI w), Value.int (nI h), Value.ref m_low, Value.ref m_high, Value.ref m_crack, Value.int (nI bc), Value.ref m_weight, Value.ref m_fire, Value.ref m_crowd, Value.ref m_state, Value.ref m_where, Value.int s_hours, Value.int s_fees, Value.int s_looks, Value.ref m_words, Value.int s_end, Value.int s_next, Value.int s_kind, Value.int s_which, Value.int s_place, Value.int s_read, Value.ref m_told, Value.ref m_breaks, Value.ref m_row, Value.ref m_tried, Value.ref m_steps, Value.ref m_paths])), (m_low, Sum.inl (y_low, 100, Sum.inl f_low)), (m_crack, Sum.inl (y_crack, 100, Sum.inl f_crack))]) [0, 1, 2] (by decide) rfl
      have hK9 := hK.sub (tys' := []) [] rfl
      refine W.widen (k := 0) (n := 0) (by decide) (by decide) ?_
      exact W.zret (v := 0) hx hb hr rfl (fun t ht hW => ⟨⟨0, (), rfl, Or.inr ⟨rfl, fun q => c_4 (by rw [ev_3]; exact q.2)⟩, by rw [ht]; exact hP9, va_K.moved hW.alike hK9, hD9⟩, hS.F ht⟩) hS.2.2 dX10_isOpen_23
    · skip
      refine lv_iconst (v := 1) hx hb dX10_isOpen_18 (by decide) ?_
      refine lv_goto (tgt := 23) hx hb dX10_isOpen_19 (by decide) ?_
      have hP9 := hP.sub (ws' := [(h0, Sum.inr (9, [Value.ref m_tape, Value.int (nI ln), Value.int s_thrown, Value.ref m_rule, Value.ref m_rules, Value.int (nI sn), Value.ref m_stair, Value.int s_readStairs, Value.int s_fault, Value.int s_faultPlace, Value.int (nI w), Value.int (nI h), Value.ref m_low, Value.ref m_high, Value.ref m_crack, Value.int (nI bc), Value.ref m_weight, Value.ref m_fire, Value.ref m_crowd, Value.ref m_state, Value.ref m_where, Value.int s_hours, Value.int s_fees, Value.int s_looks, Value.ref m_words, Value.int s_end, Value.int s_next, Value.int s_kind, Value.int s_which, Value.int s_place, Value.int s_read, Value.ref m_told, Value.ref m_breaks, Value.ref m_row, Value.ref m_tried, Value.ref m_steps, Value.ref m_paths])), (m_low, Sum.inl (y_low, 100, Sum.inl f_low)), (m_crack, Sum.inl (y_crack, 100, Sum.inl f_crack))]) [0, 1, 2] rfl
      have hD9 := hD.sub (ws' := [(h0, Sum.inr (9, [Value.ref m_tape, Value.int (nI ln), Value.int s_thrown, Value.ref m_rule, Value.ref m_rules, Value.int (nI sn), Value.ref m_stair, Value.int s_readStairs, Value.int s_fault, Value.int s_faultPlace, Value.int (nI w), Value.int (nI h), Value.ref m_low, Value.ref m_high, Value.ref m_crack, Value.int (nI bc), Value.ref m_weight, Value.ref m_fire, Value.ref m_crowd, Value.ref m_state, Value.ref m_where, Value.int s_hours, Value.int s_fees, Value.int s_looks, Value.ref m_words, Value.int s_end, Value.int s_next, Value.int s_kind, Value.int s_which, Value.int s_place, Value.int s_read, Value.ref m_told, Value.ref m_breaks, Value.ref m_row, Value.ref m_tried, Value.ref m_steps, Value.ref m_paths])), (m_low, Sum.inl (y_low, 100, Sum.inl f_low)), (m_crack, Sum.inl (y_crack, 100, Sum.inl f_crack))]) [0, 1, 2] (by decide) rfl
      have hK9 := hK.sub (tys' := []) [] rfl
      refine W.widen (k := 0) (n := 0) (by decide) (by decide) ?_
      exact W.zret (v := 1) hx hb hr rfl (fun t ht hW => ⟨⟨1, (), rfl, Or.inl ⟨rfl, by rw [← ev_1]; exact c_2, by rw [← ev_3]; exact c_4⟩, by rw [ht]; exact hP9, va_K.moved hW.alike hK9, hD9⟩, hS.F ht⟩) hS.2.2 dX10_isOpen_23
set_option maxHeartbeats 4000000 in
set_option maxRecDepth 100000 in
theorem lp_t_boothAt {p : Program} {l : Launch} {e : Env} {s : State} {m : MethodId} {args : Array Value} {below : List Frame} {meth : Method} {c : Code} {Q : State → Prop} {A : Nat → Prop} {D : va_G} (F : mFix p s m args c cX10_boothAt 3 RX10) (hA : ∀ q, s.heap.size ≤ q → A q) (h0 : Nat) (m_tape : Nat) (ln : Nat) (s_thrown : Int32) (m_rule : Nat) (m_rules : Nat) (sn : Nat) (m_stair : Nat) (s_readStairs : Int32) (s_fault : Int32) (s_faultPlace : Int32) (w : Nat) (h : Nat) (m_low : Nat) (m_high : Nat) (m_crack : Nat) (bc : Nat) (m_weight : Nat) (m_fire : Nat) (m_crowd : Nat) (m_state : Nat) (m_where : Nat) (s_hours : Int32) (s_fees : Int32) (s_looks : Int32) (m_words : Nat) (s_end : Int32) (s_next : Int32) (s_kind : Int32) (s_which : Int32) (s_place : Int32) (s_read : Int32) (m_told : Nat) (m_breaks : Nat) (m_row : Nat) (m_tried : Nat) (m_steps : Nat) (m_paths : Nat) (y_state : ClassId) (f_state : Nat → Int32) (y_where : ClassId) (f_where : Nat → Int32) (cq : Nat) (wh : Nat → Nat) (hK : va_K D vwCl [(y_state, .int), (y_where, .int)] s)
    (kx_30 : ∀ (i : Nat), (i < bc ∧ f_state i = 1 ∧ wh i = cq) → ∀ (H : Heap) (locs : List Loc), va_P D vwCl [(h0, Sum.inr (9, [Value.ref m_tape, Value.int (nI ln), Value.int s_thrown, Value.ref m_rule, Value.ref m_rules, Value.int (nI sn), Value.ref m_stair, Value.int s_readStairs, Value.int s_fault, Value.int s_faultPlace, Value.int (nI w), Value.int (nI h), Value.ref m_low, Value.ref m_high, Value.ref m_crack, Value.int (nI bc), Value.ref m_weight, Value.ref m_fire, Value.ref m_crowd, Value.ref m_state, Value.ref m_where, Value.int s_hours, Value.int s_fees, Value.int s_looks, Value.ref m_words, Value.int s_end, Value.int s_next, Value.int s_kind, Value.int s_which, Value.int s_place, Value.int s_read, Value.ref m_told, Value.ref m_breaks, Value.ref m_row, Value.ref m_tried, Value.ref m_steps, Value.ref m_paths])), (m_state, Sum.inl (y_state, 10, Sum.inl f_state)), (m_where, Sum.inl (y_where, 10, Sum.inl f_where))] H → va_D A [(h0, Sum.inr (9, [Value.ref m_tape, Value.int (nI ln), Value.int s_thrown, Value.ref m_rule, Value.ref m_rules, Value.int (nI sn), Value.ref m_stair, Value.int s_readStairs, Value.int s_fault, Value.int s_faultPlace, Value.int (nI w), Value.int (nI h), Value.ref m_low, Value.ref m_high, Value.ref m_crack, Value.int (nI bc), Value.ref m_weight, Value.ref m_fire, Value.ref m_crowd, Value.ref m_state, Value.ref m_where, Value.int s_hours, Value.int s_fees, Value.int s_looks, Value.ref m_words, Value.int s_end, Value.int s_next, Value.int s_kind, Value.int s_which, Value.int s_place, Value.int s_read, Value.ref m_told, Value.ref m_breaks, Value.ref m_row, Value.ref m_tried, Value.ref m_steps, Value.ref m_paths])), (m_state, Sum.inl (y_state, 10, Sum.inl f_state)), (m_where, Sum.inl (y_where, 10, Sum.inl f_where))] → va_S A s.heap H locs → ∀ ls : Array Slot, lv_has ls 3 [(2, Value.int (nI i))] → W p l e ({ frames := 0, cells := 0, slots := 0, locals := 0 }) s m args below meth c H locs 0 0 Q (F0 m 30 ls []))
    (kx_38 : (∀ b, b < bc → f_state b = 1 → ¬ wh b = cq) → ∀ (H : Heap) (locs : List Loc), va_P D vwCl [(h0, Sum.inr (9, [Value.ref m_tape, Value.int (nI ln), Value.int s_thrown, Value.ref m_rule, Value.ref m_rules, Value.int (nI sn), Value.ref m_stair, Value.int s_readStairs, Value.int s_fault, Value.int s_faultPlace, Value.int (nI w), Value.int (nI h), Value.ref m_low, Value.ref m_high, Value.ref m_crack, Value.int (nI bc), Value.ref m_weight, Value.ref m_fire, Value.ref m_crowd, Value.ref m_state, Value.ref m_where, Value.int s_hours, Value.int s_fees, Value.int s_looks, Value.ref m_words, Value.int s_end, Value.int s_next, Value.int s_kind, Value.int s_which, Value.int s_place, Value.int s_read, Value.ref m_told, Value.ref m_breaks, Value.ref m_row, Value.ref m_tried, Value.ref m_steps, Value.ref m_paths])), (m_state, Sum.inl (y_state, 10, Sum.inl f_state)), (m_where, Sum.inl (y_where, 10, Sum.inl f_where))] H → va_D A [(h0, Sum.inr (9, [Value.ref m_tape, Value.int (nI ln), Value.int s_thrown, Value.ref m_rule, Value.ref m_rules, Value.int (nI sn), Value.ref m_stair, Value.int s_readStairs, Value.int s_fault, Value.int s_faultPlace, Value.int (nI w), Value.int (nI h), Value.ref m_low, Value.ref m_high, Value.ref m_crack, Value.int (nI bc), Value.ref m_weight, Value.ref m_fire, Value.ref m_crowd, Value.ref m_state, Value.ref m_where, Value.int s_hours, Value.int s_fees, Value.int s_looks, Value.ref m_words, Value.int s_end, Value.int s_next, Value.int s_kind, Value.int s_which, Value.int s_place, Value.int s_read, Value.ref m_told, Value.ref m_breaks, Value.ref m_row, Value.ref m_tried, Value.ref m_steps, Value.ref m_paths])), (m_state, Sum.inl (y_state, 10, Sum.inl f_state)), (m_where, Sum.inl (y_where, 10, Sum.inl f_where))] → va_S A s.heap H locs → ∀ ls : Array Slot, lv_has ls 3 [] → W p l e ({ frames := 0, cells := 0, slots := 0, locals := 0 }) s m args below meth c H locs 0 0 Q (F0 m 38 ls [])) :
    ∀ n : Nat, ∀ (i : Nat), (i ≤ bc) → (bc ≤ 10) → (cq < 100) → (∀ b, b < bc → f_state b = 1 → f_where b = nI (wh b) ∧ wh b < 100) → (∀ b, b < i → f_state b = 1 → ¬ wh b = cq) → (bc - i) < n → ∀ (H : Heap) (locs : List Loc), va_P D vwCl [(h0, Sum.inr (9, [Value.ref m_tape, Value.int (nI ln), Value.int s_thrown, Value.ref m_rule, Value.ref m_rules, Value.int (nI sn), Value.ref m_stair, Value.int s_readStairs, Value.int s_fault, Value.int s_faultPlace, Value.int (nI w), Value.int (nI h), Value.ref m_low, Value.ref m_high, Value.ref m_crack, Value.int (nI bc), Value.ref m_weight, Value.ref m_fire, Value.ref m_crowd, Value.ref m_state, Value.ref m_where, Value.int s_hours, Value.int s_fees, Value.int s_looks, Value.ref m_words, Value.int s_end, Value.int s_next, Value.int s_kind, Value.int s_which, Value.int s_place, Value.int s_read, Value.ref m_told, Value.ref m_breaks, Value.ref m_row, Value.ref m_tried, Value.ref m_steps, Value.ref m_paths])), (m_state, Sum.inl (y_state, 10, Sum.inl f_state)), (m_where, Sum.inl (y_where, 10, Sum.inl f_where))] H → va_D A [(h0, Sum.inr (9, [Value.ref m_tape, Value.int (nI ln), Value.int s_thrown, Value.ref m_rule, Value.ref m_rules, Value.int (nI sn), Value.ref m_stair, Value.int s_readStairs, Value.int s_fault, Value.int s_faultPlace, Value.int (nI w), Value.int (nI h), Value.ref m_low, Value.ref m_high, Value.ref m_crack, Value.int (nI bc), Value.ref m_weight, Value.ref m_fire, Value.ref m_crowd, Value.ref m_state, Value.ref m_where, Value.int s_hours, Value.int s_fees, Value.int s_looks, Value.ref m_words, Value.int s_end, Value.int s_next, Value.int s_kind, Value.int s_which, Value.int s_place, Value.int s_read, Value.ref m_told, Value.ref m_breaks, Value.ref m_row, Value.ref m_tried, Value.ref m_steps, Value.ref m_paths])), (m_state, Sum.inl (y_state, 10, Sum.inl f_state)), (m_where, Sum.inl (y_where, 10, Sum.inl f_where))] → va_S A s.heap H locs → ∀ ls : Array Slot, lv_has ls 3 [(0, Value.ref h0), (1, Value.int (nI cq)), (2, Value.int (nI i))] → W p l e ({ frames := 0, cells := 0, slots := 0, locals := 0 }) s m args below meth c H locs 0 0 Q (F0 m 2 ls []) := by
  intro n
  induction n with
  | zero => intro i hi hbc hcq hWm hnb hn; exact absurd hn (Nat.not_lt_zero _)
  | succ n ih =>
    intro i hi hbc hcq hWm hnb hn H locs hP hD hS ls hl
    obtain ⟨hx, hb, hml, hown, hts⟩ := id F
    refine lv_iload_n hx hb dX10_boothAt_2 rfl (lv_at hl 2 rfl) ?_
    refine lv_aload_n hx hb dX10_boothAt_3 rfl (lv_at hl 0 rfl) ?_
    refine va_get (D := D) (ci := 9) (v := Value.int (nI bc)) (C := RX10) (T := TX10) (N := 37) hx hb hts inG_X10 hown hK hP 0 rfl rfl 15 (by decide) (hts _ kw_4_210) (fun _ h9 => h9) rfl dX10_boothAt_4 ?_
    refine lv_icmp_ge (tgt := 38) hx hb dX10_boothAt_7 (by decide) (fun c_1 => ?_) (fun c_1 => ?_)
    · skip
      have c_1n : bc ≤ i := (nI_leI (by omega) (by omega)).mp c_1
      have c_1 := Int32.not_lt.mpr c_1
      exact kx_38  ((show i = bc by omega) ▸ hnb) H locs (hP.sub [0, 1, 2] rfl) (hD.sub [0, 1, 2] (by decide) rfl) hS ls (lv_sub hl [] rfl)
    · skip
      have c_1n : i < bc := nb_le (by omega) (by omega) c_1
      have c_1 := Int32.not_le.mp c_1
      refine lv_aload_n hx hb dX10_boothAt_10 rfl (lv_at hl 0 rfl) ?_
      refine va_get (D := D) (ci := 9) (v := Value.ref m_state) (C := RX10) (T := TX10) (N := 37) hx hb hts inG_X10 hown hK hP 0 rfl rfl 19 (by decide) (hts _ kw_4_214) (fun _ h9 => h9) rfl dX10_boothAt_11 ?_
      refine lv_iload_n hx hb dX10_boothAt_14 rfl (lv_at hl 2 rfl) ?_
      refine m_iald hx hb hK hP 1 0 rfl rfl i rfl (by omega) (by decide) dX10_boothAt_15 ?_
      refine lv_topi (fun v_2 ev_2 => ?_)
      refine lv_iconst (v := 1) hx hb dX10_boothAt_16 (by decide) ?_
      refine lv_icmp_ne (tgt := 32) hx hb dX10_boothAt_17 (by decide) (fun c_3 => ?_) (fun c_3 => ?_)
      · skip
        refine lv_iinc (v := nI (i + 1)) (lv' := [(2, Value.int (nI (i + 1))), (0, Value.ref h0), (1, Value.int (nI cq))]) hx hb dX10_boothAt_32 hl (k := 2) rfl (nI_add i 1) (by decide) rfl (fun ls hl => ?_)
        refine lv_goto (tgt := 2) hx hb dX10_boothAt_35 (by decide) ?_
        exact ih (i + 1) (by omega) (by omega) (by omega) hWm (fun b hb s1 => by rcases (show b < i ∨ b = i by omega) with q | rfl; exact hnb b q s1; exact fun _ => absurd (by rw [ev_2]; exact s1) c_3) (by omega) H locs (hP.sub [0, 1, 2] rfl) (hD.sub [0, 1, 2] (by decide) rfl) hS ls (lv_sub hl [1, 2, 0] rfl)
      · skip
        have hs1 : f_state i = 1 := by rw [← ev_2]; exact c_3
        have hw9 := hWm i (by omega) hs1
        refine lv_aload_n hx hb dX10_boothAt_20 rfl (lv_at hl 0 rfl) ?_
        refine va_get (D := D) (ci := 9) (v := Value.ref m_where) (C := RX10) (T := TX10) (N := 37) hx hb hts inG_X10 hown hK hP 0 rfl rfl 20 (by decide) (hts _ kw_4_215) (fun _ h9 => h9) rfl dX10_boothAt_21 ?_
        refine lv_iload_n hx hb dX10_boothAt_24 rfl (lv_at hl 2 rfl) ?_
        refine m_iald hx hb hK hP 2 1 rfl rfl i rfl (by omega) (by decide) dX10_boothAt_25 ?_
        refine lv_topi (fun v_4 ev_4 => ?_)
        obtain rfl : v_4 = nI (wh i) := ev_4.trans hw9.1
        refine lv_iload_n hx hb dX10_boothAt_26 rfl (lv_at hl 1 rfl) ?_
        refine lv_icmp_ne (tgt := 32) hx hb dX10_boothAt_27 (by decide) (fun c_5 => ?_) (fun c_5 => ?_)
        · skip
          have c_5n : ¬ (wh i) = cq := nb_eq (by omega) (by omega) c_5
          refine lv_iinc (v := nI (i + 1)) (lv' := [(2, Value.int (nI (i + 1))), (0, Value.ref h0), (1, Value.int (nI cq))]) hx hb dX10_boothAt_32 hl (k := 2) rfl (nI_add i 1) (by decide) rfl (fun ls hl => ?_)
          refine lv_goto (tgt := 2) hx hb dX10_boothAt_35 (by decide) ?_
          exact ih (i + 1) (by omega) (by omega) (by omega) hWm (fun b hb s1 => by rcases (show b < i ∨ b = i by omega) with q | rfl; exact hnb b q s1; exact c_5n) (by omega) H locs (hP.sub [0, 1, 2] rfl) (hD.sub [0, 1, 2] (by decide) rfl) hS ls (lv_sub hl [1, 2, 0] rfl)
        · skip
          have c_5n : (wh i) = cq := (nI_eq (by omega) (by omega)).mp c_5
          exact kx_30 i (⟨by omega, hs1, c_5n⟩) H locs (hP.sub [0, 1, 2] rfl) (hD.sub [0, 1, 2] (by decide) rfl) hS ls (lv_sub hl [2] rfl)
set_option maxHeartbeats 4000000 in
set_option maxRecDepth 100000 in
theorem t_boothAt (l : Launch) (D : va_G) (wh : Nat → Nat) (h0 : Nat) (m_tape : Nat) (ln : Nat) (s_thrown : Int32) (m_rule : Nat) (m_rules : Nat) (sn : Nat) (m_stair : Nat) (s_readStairs : Int32) (s_fault : Int32) (s_faultPlace : Int32) (w : Nat) (h : Nat) (m_low : Nat) (m_high : Nat) (m_crack : Nat) (bc : Nat) (m_weight : Nat) (m_fire : Nat) (m_crowd : Nat) (m_state : Nat) (m_where : Nat) (s_hours : Int32) (s_fees : Int32) (s_looks : Int32) (m_words : Nat) (s_end : Int32) (s_next : Int32) (s_kind : Int32) (s_which : Int32) (s_place : Int32) (s_read : Int32) (m_told : Nat) (m_breaks : Nat) (m_row : Nat) (m_tried : Nat) (m_steps : Nat) (m_paths : Nat) (y_state : ClassId) (f_state : Nat → Int32) (y_where : ClassId) (f_where : Nat → Int32) (cq : Nat) (hbc : bc ≤ 10) (hcq : cq < 100) (hWm : ∀ b, b < bc → f_state b = 1 → f_where b = nI (wh b) ∧ wh b < 100) : cI l yX10_boothAt (.code yX10_boothAt cX10_boothAt 3 (some .int)) ({ frames := 0, cells := 0, slots := 0, locals := 0 }) D [(y_state, .int), (y_where, .int)] [(h0, Sum.inr (9, [Value.ref m_tape, Value.int (nI ln), Value.int s_thrown, Value.ref m_rule, Value.ref m_rules, Value.int (nI sn), Value.ref m_stair, Value.int s_readStairs, Value.int s_fault, Value.int s_faultPlace, Value.int (nI w), Value.int (nI h), Value.ref m_low, Value.ref m_high, Value.ref m_crack, Value.int (nI bc), Value.ref m_weight, Value.ref m_fire, Value.ref m_crowd, Value.ref m_state, Value.ref m_where, Value.int s_hours, Value.int s_fees, Value.int s_looks, Value.ref m_words, Value.int s_end, Value.int s_next, Value.int s_kind, Value.int s_which, Value.int s_place, Value.int s_read, Value.ref m_told, Value.ref m_breaks, Value.ref m_row, Value.ref m_tried, Value.ref m_steps, Value.ref m_paths])), (m_state, Sum.inl (y_state, 10, Sum.inl f_state)), (m_where, Sum.inl (y_where, 10, Sum.inl f_where))] xT [Value.ref h0, Value.int (nI cq)] (S := Unit) (fun r _ => (r = (-1) ∧ ∀ b, b < bc → f_state b = 1 → ¬ wh b = cq) ∨ (∃ b, b < bc ∧ f_state b = 1 ∧ wh b = cq ∧ r = nI b)) (fun _ => []) (fun _ => [(h0, Sum.inr (9, [Value.ref m_tape, Value.int (nI ln), Value.int s_thrown, Value.ref m_rule, Value.ref m_rules, Value.int (nI sn), Value.ref m_stair, Value.int s_readStairs, Value.int s_fault, Value.int s_faultPlace, Value.int (nI w), Value.int (nI h), Value.ref m_low, Value.ref m_high, Value.ref m_crack, Value.int (nI bc), Value.ref m_weight, Value.ref m_fire, Value.ref m_crowd, Value.ref m_state, Value.ref m_where, Value.int s_hours, Value.int s_fees, Value.int s_looks, Value.ref m_words, Value.int s_end, Value.int s_next, Value.int s_kind, Value.int s_which, Value.int s_place, Value.int s_read, Value.ref m_told, Value.ref m_breaks, Value.ref m_row, Value.ref m_tried, Value.ref m_steps, Value.ref m_paths])), (m_state, Sum.inl (y_state, 10, Sum.inl f_state)), (m_where, Sum.inl (y_where, 10, Sum.inl f_where))]) := by
  intro sz
  refine Met.ofW (cc := cX10_boothAt) (maxL := 3) (ret := (some .int)) (by decide) rfl ?_
  intro p e s m args below meth c s₁ B hml hv
  obtain ⟨rfl, hsz, hP, hK, hD0, hX⟩ := hv
  have hx := B.exec
  have hb := B.bytes
  have hr := B.returns
  have hts0 := atoms_spec (ws := .code yX10_boothAt cX10_boothAt 3 (some .int) :: gw) B.pre
  have hts := fun (w : Cond) (h : w ∈ gw) => hts0 w (List.mem_cons_of_mem _ h)
  have hown : s.vm.findClass RX10 = some m.cls := findClass_of_methodNamed B.named
  have hlocks := B.notSynchronized
  have F : mFix p s m _ c cX10_boothAt 3 RX10 := ⟨hx, hb, hml, hown, hts⟩
  subst hsz
  have hD := hD0.self (sz := s.heap.size)
  generalize hAe : va_A [(h0, Sum.inr (9, [Value.ref m_tape, Value.int (nI ln), Value.int s_thrown, Value.ref m_rule, Value.ref m_rules, Value.int (nI sn), Value.ref m_stair, Value.int s_readStairs, Value.int s_fault, Value.int s_faultPlace, Value.int (nI w), Value.int (nI h), Value.ref m_low, Value.ref m_high, Value.ref m_crack, Value.int (nI bc), Value.ref m_weight, Value.ref m_fire, Value.ref m_crowd, Value.ref m_state, Value.ref m_where, Value.int s_hours, Value.int s_fees, Value.int s_looks, Value.ref m_words, Value.int s_end, Value.int s_next, Value.int s_kind, Value.int s_which, Value.int s_place, Value.int s_read, Value.ref m_told, Value.ref m_breaks, Value.ref m_row, Value.ref m_tried, Value.ref m_steps, Value.ref m_paths])), (m_state, Sum.inl (y_state, 10, Sum.inl f_state)), (m_where, Sum.inl (y_where, 10, Sum.inl f_where))] s.heap.size = A at hD hX ⊢
  have hA : ∀ q : Nat, s.heap.size ≤ q → A q := fun q h => by rw [← hAe]; exact Or.inr h
  have hS : va_S A s.heap s.heap [] := va_S.rf
  have hl := lv_entry ([Value.ref h0, Value.int (nI cq)]) (n := 3) (Nat.le_of_ble_eq_true rfl)
  rw [lg_entry_eq]
  generalize (lg_sl ([Value.ref h0, Value.int (nI cq)]) ++ List.replicate (3 - (lg_sl ([Value.ref h0, Value.int (nI cq)])).length) Slot.unset).toArray = ls at hl ⊢
  have hl : lv_has ls 3 [(0, Value.ref h0), (1, Value.int (nI cq))] := hl
  have hP : va_P D vwCl [(h0, Sum.inr (9, [Value.ref m_tape, Value.int (nI ln), Value.int s_thrown, Value.ref m_rule, Value.ref m_rules, Value.int (nI sn), Value.ref m_stair, Value.int s_readStairs, Value.int s_fault, Value.int s_faultPlace, Value.int (nI w), Value.int (nI h), Value.ref m_low, Value.ref m_high, Value.ref m_crack, Value.int (nI bc), Value.ref m_weight, Value.ref m_fire, Value.ref m_crowd, Value.ref m_state, Value.ref m_where, Value.int s_hours, Value.int s_fees, Value.int s_looks, Value.ref m_words, Value.int s_end, Value.int s_next, Value.int s_kind, Value.int s_which, Value.int s_place, Value.int s_read, Value.ref m_told, Value.ref m_breaks, Value.ref m_row, Value.ref m_tried, Value.ref m_steps, Value.ref m_paths])), (m_state, Sum.inl (y_state, 10, Sum.inl f_state)), (m_where, Sum.inl (y_where, 10, Sum.inl f_where))] s.heap := hP
  refine lv_iconst (v := 0) hx hb dX10_boothAt_0 (by decide) ?_
  refine lv_istore_n (lv' := [(2, Value.int 0), (0, Value.ref h0), (1, Value.int (nI cq))]) hx hb dX10_boothAt_1 rfl hl (by decide) rfl (fun ls hl => ?_)
  refine lp_t_boothAt F hA h0 m_tape ln s_thrown m_rule m_rules sn m_stair s_readStairs s_fault s_faultPlace w h m_low m_high m_crack bc m_weight m_fire m_crowd m_state m_where s_hours s_fees s_looks m_words s_end s_next s_kind s_which s_place s_read m_told m_breaks m_row m_tried m_steps m_paths y_state f_state y_where f_where cq wh (hK.sub [0, 1] rfl) (fun i_1 h_2 H locs hP hD hS ls hl => ?_) (fun  h_3 H locs hP hD hS ls hl => ?_) _ 0 (by omega) (by omega) (by omega) hWm (fun b hb => absurd hb (Nat.not_lt_zero b)) (Nat.lt_succ_self _) _ _ (hP.sub [0, 1, 2] rfl) (hD.sub [0, 1, 2] (by decide) rfl) hS ls (lv_sub hl [1, 2, 0] rfl)
  · skip
    have h_2 : i_1 < bc ∧ f_state i_1 = 1 ∧ wh i_1 = cq := h_2
    refine lv_iload_n hx hb dX10_boothAt_30 rfl (lv_at hl 0 rfl) ?_
    have hP9 := hP.sub (ws' := [(h0, Sum.inr (9, [Value.ref m_tape, Value.int (nI ln), Value.int s_thrown, Value.ref m_rule, Value.ref m_rules, Value.int (nI sn), Value.ref m_stair, Value.int s_readStairs, Value.int s_fault, Value.int s_faultPlace, Value.int (nI w), Value.int (nI h), Value.ref m_low, Value.ref m_high, Value.ref m_crack, Value.int (nI bc), Value.ref m_weight, Value.ref m_fire, Value.ref m_crowd, Value.ref m_state, Value.ref m_where, Value.int s_hours, Value.int s_fees, Value.int s_looks, Value.ref m_words, Value.int s_end, Value.int s_next, Value.int s_kind, Value.int s_which, Value.int s_place, Value.int s_read, Value.ref m_told, Value.ref m_breaks, Value.ref m_row, Value.ref m_tried, Value.ref m_steps, Value.ref m_paths])), (m_state, Sum.inl (y_state, 10, Sum.inl f_state)), (m_where, Sum.inl (y_where, 10, Sum.inl f_where))]) [0, 1, 2] rfl
    have hD9 := hD.sub (ws' := [(h0, Sum.inr (9, [Value.ref m_tape, Value.int (nI ln), Value.int s_thrown, Value.ref m_rule, Value.ref m_rules, Value.int (nI sn), Value.ref m_stair, Value.int s_readStairs, Value.int s_fault, Value.int s_faultPlace, Value.int (nI w), Value.int (nI h), Value.ref m_low, Value.ref m_high, Value.ref m_crack, Value.int (nI bc), Value.ref m_weight, Value.ref m_fire, Value.ref m_crowd, Value.ref m_state, Value.ref m_where, Value.int s_hours, Value.int s_fees, Value.int s_looks, Value.ref m_words, Value.int s_end, Value.int s_next, Value.int s_kind, Value.int s_which, Value.int s_place, Value.int s_read, Value.ref m_told, Value.ref m_breaks, Value.ref m_row, Value.ref m_tried, Value.ref m_steps, Value.ref m_paths])), (m_state, Sum.inl (y_state, 10, Sum.inl f_state)), (m_where, Sum.inl (y_where, 10, Sum.inl f_where))]) [0, 1, 2] (by decide) rfl
    have hK9 := hK.sub (tys' := []) [] rfl
    refine W.widen (k := 0) (n := 0) (by decide) (by decide) ?_
    exact W.iret (v := nI i_1) hx hb hr (fun t ht hW => ⟨⟨(nI i_1), (), rfl, Or.inr ⟨_, h_2.1, h_2.2.1, h_2.2.2, rfl⟩, by rw [ht]; exact hP9, va_K.moved hW.alike hK9, hD9⟩, hS.F ht⟩) hS.2.2 dX10_boothAt_31
  · skip
    have h_3 : ∀ b, b < bc → f_state b = 1 → ¬ wh b = cq := h_3
    refine lv_iconst (v := -1) hx hb dX10_boothAt_38 (by decide) ?_
    have hP9 := hP.sub (ws' := [(h0, Sum.inr (9, [Value.ref m_tape, Value.int (nI ln), Value.int s_thrown, Value.ref m_rule, Value.ref m_rules, Value.int (nI sn), Value.ref m_stair, Value.int s_readStairs, Value.int s_fault, Value.int s_faultPlace, Value.int (nI w), Value.int (nI h), Value.ref m_low, Value.ref m_high, Value.ref m_crack, Value.int (nI bc), Value.ref m_weight, Value.ref m_fire, Value.ref m_crowd, Value.ref m_state, Value.ref m_where, Value.int s_hours, Value.int s_fees, Value.int s_looks, Value.ref m_words, Value.int s_end, Value.int s_next, Value.int s_kind, Value.int s_which, Value.int s_place, Value.int s_read, Value.ref m_told, Value.ref m_breaks, Value.ref m_row, Value.ref m_tried, Value.ref m_steps, Value.ref m_paths])), (m_state, Sum.inl (y_state, 10, Sum.inl f_state)), (m_where, Sum.inl (y_where, 10, Sum.inl f_where))]) [0, 1, 2] rfl
    have hD9 := hD.sub (ws' := [(h0, Sum.inr (9, [Value.ref m_tape, Value.int (nI ln), Value.int s_thrown, Value.ref m_rule, Value.ref m_rules, Value.int (nI sn), Value.ref m_stair, Value.int s_readStairs, Value.int s_fault, Value.int s_faultPlace, Value.int (nI w), Value.int (nI h), Value.ref m_low, Value.ref m_high, Value.ref m_crack, Value.int (nI bc), Value.ref m_weight, Value.ref m_fire, Value.ref m_crowd, Value.ref m_state, Value.ref m_where, Value.int s_hours, Value.int s_fees, Value.int s_looks, Value.ref m_words, Value.int s_end, Value.int s_next, Value.int s_kind, Value.int s_which, Value.int s_place, Value.int s_read, Value.ref m_told, Value.ref m_breaks, Value.ref m_row, Value.ref m_tried, Value.ref m_steps, Value.ref m_paths])), (m_state, Sum.inl (y_state, 10, Sum.inl f_state)), (m_where, Sum.inl (y_where, 10, Sum.inl f_where))]) [0, 1, 2] (by decide) rfl
    have hK9 := hK.sub (tys' := []) [] rfl
    refine W.widen (k := 0) (n := 0) (by decide) (by decide) ?_
    exact W.iret (v := (-1)) hx hb hr (fun t ht hW => ⟨⟨((-1)), (), rfl, Or.inl ⟨rfl, h_3⟩, by rw [ht]; exact hP9, va_K.moved hW.alike hK9, hD9⟩, hS.F ht⟩) hS.2.2 dX10_boothAt_39
set_option maxHeartbeats 4000000 in
set_option maxRecDepth 100000 in
theorem t_feeOf (l : Launch) (D : va_G) (h0 : Nat) (m_tape : Nat) (ln : Nat) (s_thrown : Int32) (m_rule : Nat) (m_rules : Nat) (sn : Nat) (m_stair : Nat) (s_readStairs : Int32) (s_fault : Int32) (s_faultPlace : Int32) (w : Nat) (h : Nat) (m_low : Nat) (m_high : Nat) (m_crack : Nat) (bc : Nat) (m_weight : Nat) (m_fire : Nat) (m_crowd : Nat) (m_state : Nat) (m_where : Nat) (s_hours : Int32) (s_fees : Int32) (s_looks : Int32) (m_words : Nat) (s_end : Int32) (s_next : Int32) (s_kind : Int32) (s_which : Int32) (s_place : Int32) (s_read : Int32) (m_told : Nat) (m_breaks : Nat) (m_row : Nat) (m_tried : Nat) (m_steps : Nat) (m_paths : Nat) (y_rule : ClassId) (f_rule : Nat → Int32) (y_weight : ClassId) (f_weight : Nat → Int32) (y_fire : ClassId) (f_fire : Nat → Int32) (b : Nat) (hb9 : b < 10) : cI l yX10_feeOf (.code yX10_feeOf cX10_feeOf 2 (some .int)) ({ frames := 0, cells := 0, slots := 0, locals := 0 }) D [(y_rule, .int), (y_weight, .int), (y_fire, .boolean)] [(h0, Sum.inr (9, [Value.ref m_tape, Value.int (nI ln), Value.int s_thrown, Value.ref m_rule, Value.ref m_rules, Value.int (nI sn), Value.ref m_stair, Value.int s_readStairs, Value.int s_fault, Value.int s_faultPlace, Value.int (nI w), Value.int (nI h), Value.ref m_low, Value.ref m_high, Value.ref m_crack, Value.int (nI bc), Value.ref m_weight, Value.ref m_fire, Value.ref m_crowd, Value.ref m_state, Value.ref m_where, Value.int s_hours, Value.int s_fees, Value.int s_looks, Value.ref m_words, Value.int s_end, Value.int s_next, Value.int s_kind, Value.int s_which, Value.int s_place, Value.int s_read, Value.ref m_told, Value.ref m_breaks, Value.ref m_row, Value.ref m_tried, Value.ref m_steps, Value.ref m_paths])), (m_rule, Sum.inl (y_rule, 8, Sum.inl f_rule)), (m_weight, Sum.inl (y_weight, 10, Sum.inl f_weight)), (m_fire, Sum.inl (y_fire, 10, Sum.inl f_fire))] xT [Value.ref h0, Value.int (nI b)] (S := Unit) (fun r _ => r = f_rule 6 * f_weight b + (if f_fire b = 0 then 0 else f_rule 7)) (fun _ => []) (fun _ => [(h0, Sum.inr (9, [Value.ref m_tape, Value.int (nI ln), Value.int s_thrown, Value.ref m_rule, Value.ref m_rules, Value.int (nI sn), Value.ref m_stair, Value.int s_readStairs, Value.int s_fault, Value.int s_faultPlace, Value.int (nI w), Value.int (nI h), Value.ref m_low, Value.ref m_high, Value.ref m_crack, Value.int (nI bc), Value.ref m_weight, Value.ref m_fire, Value.ref m_crowd, Value.ref m_state, Value.ref m_where, Value.int s_hours, Value.int s_fees, Value.int s_looks, Value.ref m_words, Value.int s_end, Value.int s_next, Value.int s_kind, Value.int s_which, Value.int s_place, Value.int s_read, Value.ref m_told, Value.ref m_breaks, Value.ref m_row, Value.ref m_tried, Value.ref m_steps, Value.ref m_paths])), (m_rule, Sum.inl (y_rule, 8, Sum.inl f_rule)), (m_weight, Sum.inl (y_weight, 10, Sum.inl f_weight)), (m_fire, Sum.inl (y_fire, 10, Sum.inl f_fire))]) := by
  intro sz
  refine Met.ofW (cc := cX10_feeOf) (maxL := 2) (ret := (some .int)) (by decide) rfl ?_
  intro p e s m args below meth c s₁ B hml hv
  obtain ⟨rfl, hsz, hP, hK, hD0, hX⟩ := hv
  have hx := B.exec
  have hb := B.bytes
  have hr := B.returns
  have hts0 := atoms_spec (ws := .code yX10_feeOf cX10_feeOf 2 (some .int) :: gw) B.pre
  have hts := fun (w : Cond) (h : w ∈ gw) => hts0 w (List.mem_cons_of_mem _ h)
  have hown : s.vm.findClass RX10 = some m.cls := findClass_of_methodNamed B.named
  have hlocks := B.notSynchronized
  have F : mFix p s m _ c cX10_feeOf 2 RX10 := ⟨hx, hb, hml, hown, hts⟩
  subst hsz
  have hD := hD0.self (sz := s.heap.size)
  generalize hAe : va_A [(h0, Sum.inr (9, [Value.ref m_tape, Value.int (nI ln), Value.int s_thrown, Value.ref m_rule, Value.ref m_rules, Value.int (nI sn), Value.ref m_stair, Value.int s_readStairs, Value.int s_fault, Value.int s_faultPlace, Value.int (nI w), Value.int (nI h), Value.ref m_low, Value.ref m_high, Value.ref m_crack, Value.int (nI bc), Value.ref m_weight, Value.ref m_fire, Value.ref m_crowd, Value.ref m_state, Value.ref m_where, Value.int s_hours, Value.int s_fees, Value.int s_looks, Value.ref m_words, Value.int s_end, Value.int s_next, Value.int s_kind, Value.int s_which, Value.int s_place, Value.int s_read, Value.ref m_told, Value.ref m_breaks, Value.ref m_row, Value.ref m_tried, Value.ref m_steps, Value.ref m_paths])), (m_rule, Sum.inl (y_rule, 8, Sum.inl f_rule)), (m_weight, Sum.inl (y_weight, 10, Sum.inl f_weight)), (m_fire, Sum.inl (y_fire, 10, Sum.inl f_fire))] s.heap.size = A at hD hX ⊢
  have hA : ∀ q : Nat, s.heap.size ≤ q → A q := fun q h => by rw [← hAe]; exact Or.inr h
  have hS : va_S A s.heap s.heap [] := va_S.rf
  have hl := lv_entry ([Value.ref h0, Value.int (nI b)]) (n := 2) (Nat.le_of_ble_eq_true rfl)
  rw [lg_entry_eq]
  generalize (lg_sl ([Value.ref h0, Value.int (nI b)]) ++ List.replicate (2 - (lg_sl ([Value.ref h0, Value.int (nI b)])).length) Slot.unset).toArray = ls at hl ⊢
  have hl : lv_has ls 2 [(0, Value.ref h0), (1, Value.int (nI b))] := hl
  have hP : va_P D vwCl [(h0, Sum.inr (9, [Value.ref m_tape, Value.int (nI ln), Value.int s_thrown, Value.ref m_rule, Value.ref m_rules, Value.int (nI sn), Value.ref m_stair, Value.int s_readStairs, Value.int s_fault, Value.int s_faultPlace, Value.int (nI w), Value.int (nI h), Value.ref m_low, Value.ref m_high, Value.ref m_crack, Value.int (nI bc), Value.ref m_weight, Value.ref m_fire, Value.ref m_crowd, Value.ref m_state, Value.ref m_where, Value.int s_hours, Value.int s_fees, Value.int s_looks, Value.ref m_words, Value.int s_end, Value.int s_next, Value.int s_kind, Value.int s_which, Value.int s_place, Value.int s_read, Value.ref m_told, Value.ref m_breaks, Value.ref m_row, Value.ref m_tried, Value.ref m_steps, Value.ref m_paths])), (m_rule, Sum.inl (y_rule, 8, Sum.inl f_rule)), (m_weight, Sum.inl (y_weight, 10, Sum.inl f_weight)), (m_fire, Sum.inl (y_fire, 10, Sum.inl f_fire))] s.heap := hP
  refine lv_aload_n hx hb dX10_feeOf_0 rfl (lv_at hl 0 rfl) ?_
  refine va_get (D := D) (ci := 9) (v := Value.ref m_rule) (C := RX10) (T := TX10) (N := 37) hx hb hts inG_X10 hown hK hP 0 rfl rfl 3 (by decide) (hts _ kw_4_198) (fun _ h9 => h9) rfl dX10_feeOf_1 ?_
  refine lv_bipush (v := 6) hx hb dX10_feeOf_4 (by decide) ?_
  refine m_iald hx hb hK hP 1 0 rfl rfl 6 rfl (by decide) (by decide) dX10_feeOf_6 ?_
  refine lv_topi (fun v_1 ev_1 => ?_)
  refine lv_aload_n hx hb dX10_feeOf_7 rfl (lv_at hl 0 rfl) ?_
  refine va_get (D := D) (ci := 9) (v := Value.ref m_weight) (C := RX10) (T := TX10) (N := 37) hx hb hts inG_X10 hown hK hP 0 rfl rfl 16 (by decide) (hts _ kw_4_211) (fun _ h9 => h9) rfl dX10_feeOf_8 ?_
  refine lv_iload_n hx hb dX10_feeOf_11 rfl (lv_at hl 1 rfl) ?_
  refine m_iald hx hb hK hP 2 1 rfl rfl b rfl (by omega) (by decide) dX10_feeOf_12 ?_
  refine lv_topi (fun v_2 ev_2 => ?_)
  refine lv_imul hx hb dX10_feeOf_13 ?_
  refine lv_topi (fun z_3 ez_3 => ?_)
  refine lv_aload_n hx hb dX10_feeOf_14 rfl (lv_at hl 0 rfl) ?_
  refine va_get (D := D) (ci := 9) (v := Value.ref m_fire) (C := RX10) (T := TX10) (N := 37) hx hb hts inG_X10 hown hK hP 0 rfl rfl 17 (by decide) (hts _ kw_4_212) (fun _ h9 => h9) rfl dX10_feeOf_15 ?_
  refine lv_iload_n hx hb dX10_feeOf_18 rfl (lv_at hl 1 rfl) ?_
  refine m_zald hx hb hK hP 3 2 rfl rfl b rfl (by omega) (by decide) dX10_feeOf_19 ?_
  refine lv_topi (fun v_4 ev_4 => ?_)
  refine lv_if_eq (tgt := 33) hx hb dX10_feeOf_20 (by decide) (fun c_5 => ?_) (fun c_5 => ?_)
  · skip
    refine lv_iconst (v := 0) hx hb dX10_feeOf_33 (by decide) ?_
    refine lv_iadd hx hb dX10_feeOf_34 ?_
    refine lv_topi (fun z_6 ez_6 => ?_)
    have hP9 := hP.sub (ws' := [(h0, Sum.inr (9, [Value.ref m_tape, Value.int (nI ln), Value.int s_thrown, Value.ref m_rule, Value.ref m_rules, Value.int (nI sn), Value.ref m_stair, Value.int s_readStairs, Value.int s_fault, Value.int s_faultPlace, Value.int (nI w), Value.int (nI h), Value.ref m_low, Value.ref m_high, Value.ref m_crack, Value.int (nI bc), Value.ref m_weight, Value.ref m_fire, Value.ref m_crowd, Value.ref m_state, Value.ref m_where, Value.int s_hours, Value.int s_fees, Value.int s_looks, Value.ref m_words, Value.int s_end, Value.int s_next, Value.int s_kind, Value.int s_which, Value.int s_place, Value.int s_read, Value.ref m_told, Value.ref m_breaks, Value.ref m_row, Value.ref m_tried, Value.ref m_steps, Value.ref m_paths])), (m_rule, Sum.inl (y_rule, 8, Sum.inl f_rule)), (m_weight, Sum.inl (y_weight, 10, Sum.inl f_weight)), (m_fire, Sum.inl (y_fire, 10, Sum.inl f_fire))]) [0, 1, 2, 3] rfl
    have hD9 := hD.sub (ws' := [(h0, Sum.inr (9, [Value.ref m_tape, Value.int (nI ln), Value.int s_thrown, Value.ref m_rule, Value.ref m_rules, Value.int (nI sn), Value.ref m_stair, Value.int s_readStairs, Value.int s_fault, Value.int s_faultPlace, Value.int (nI w), Value.int (nI h), Value.ref m_low, Value.ref m_high, Value.ref m_crack, Value.int (nI bc), Value.ref m_weight, Value.ref m_fire, Value.ref m_crowd, Value.ref m_state, Value.ref m_where, Value.int s_hours, Value.int s_fees, Value.int s_looks, Value.ref m_words, Value.int s_end, Value.int s_next, Value.int s_kind, Value.int s_which, Value.int s_place, Value.int s_read, Value.ref m_told, Value.ref m_breaks, Value.ref m_row, Value.ref m_tried, Value.ref m_steps, Value.ref m_paths])), (m_rule, Sum.inl (y_rule, 8, Sum.inl f_rule)), (m_weight, Sum.inl (y_weight, 10, Sum.inl f_weight)), (m_fire, Sum.inl (y_fire, 10, Sum.inl f_fire))]) [0, 1, 2, 3] (by decide) rfl
    have hK9 := hK.sub (tys' := []) [] rfl
    refine W.widen (k := 0) (n := 0) (by decide) (by decide) ?_
    exact W.iret (v := z_6) hx hb hr (fun t ht hW => ⟨⟨z_6, (), rfl, (by rw [if_pos (by rw [← ev_4]; exact c_5)]; simp only [ev_1, ev_2, ez_3, ez_6]), by rw [ht]; exact hP9, va_K.moved hW.alike hK9, hD9⟩, hS.F ht⟩) hS.2.2 dX10_feeOf_35
  · skip
    refine lv_aload_n hx hb dX10_feeOf_23 rfl (lv_at hl 0 rfl) ?_
    refine va_get (D := D) (ci := 9) (v := Value.ref m_rule) (C := RX10) (T := TX10) (N := 37) hx hb hts inG_X10 hown hK hP 0 rfl rfl 3 (by decide) (hts _ kw_4_198) (fun _ h9 => h9) rfl dX10_feeOf_24 ?_
    refine lv_bipush (v := 7) hx hb dX10_feeOf_27 (by decide) ?_
    refine m_iald hx hb hK hP 1 0 rfl rfl 7 rfl (by decide) (by decide) dX10_feeOf_29 ?_
    refine lv_topi (fun v_7 ev_7 => ?_)
    refine lv_goto (tgt := 34) hx hb dX10_feeOf_30 (by decide) ?_
    refine lv_iadd hx hb dX10_feeOf_34 ?_
    refine lv_topi (fun z_8 ez_8 => ?_)
    have hP9 := hP.sub (ws' := [(h0, Sum.inr (9, [Value.ref m_tape, Value.int (nI ln), Value.int s_thrown, Value.ref m_rule, Value.ref m_rules, Value.int (nI sn), Value.ref m_stair, Value.int s_readStairs, Value.int s_fault, Value.int s_faultPlace, Value.int (nI w), Value.int (nI h), Value.ref m_low, Value.ref m_high, Value.ref m_crack, Value.int (nI bc), Value.ref m_weight, Value.ref m_fire, Value.ref m_crowd, Value.ref m_state, Value.ref m_where, Value.int s_hours, Value.int s_fees, Value.int s_looks, Value.ref m_words, Value.int s_end, Value.int s_next, Value.int s_kind, Value.int s_which, Value.int s_place, Value.int s_read, Value.ref m_told, Value.ref m_breaks, Value.ref m_row, Value.ref m_tried, Value.ref m_steps, Value.ref m_paths])), (m_rule, Sum.inl (y_rule, 8, Sum.inl f_rule)), (m_weight, Sum.inl (y_weight, 10, Sum.inl f_weight)), (m_fire, Sum.inl (y_fire, 10, Sum.inl f_fire))]) [0, 1, 2, 3] rfl
    have hD9 := hD.sub (ws' := [(h0, Sum.inr (9, [Value.ref m_tape, Value.int (nI ln), Value.int s_thrown, Value.ref m_rule, Value.ref m_rules, Value.int (nI sn), Value.ref m_stair, Value.int s_readStairs, Value.int s_fault, Value.int s_faultPlace, Value.int (nI w), Value.int (nI h), Value.ref m_low, Value.ref m_high, Value.ref m_crack, Value.int (nI bc), Value.ref m_weight, Value.ref m_fire, Value.ref m_crowd, Value.ref m_state, Value.ref m_where, Value.int s_hours, Value.int s_fees, Value.int s_looks, Value.ref m_words, Value.int s_end, Value.int s_next, Value.int s_kind, Value.int s_which, Value.int s_place, Value.int s_read, Value.ref m_told, Value.ref m_breaks, Value.ref m_row, Value.ref m_tried, Value.ref m_steps, Value.ref m_paths])), (m_rule, Sum.inl (y_rule, 8, Sum.inl f_rule)), (m_weight, Sum.inl (y_weight, 10, Sum.inl f_weight)), (m_fire, Sum.inl (y_fire, 10, Sum.inl f_fire))]) [0, 1, 2, 3] (by decide) rfl
    have hK9 := hK.sub (tys' := []) [] rfl
    refine W.widen (k := 0) (n := 0) (by decide) (by decide) ?_
    exact W.iret (v := z_8) hx hb hr (fun t ht hW => ⟨⟨z_8, (), rfl, (by rw [if_neg (fun q => c_5 (by rw [ev_4]; exact q))]; simp only [ev_1, ev_2, ez_3, ev_7, ez_8]), by rw [ht]; exact hP9, va_K.moved hW.alike hK9, hD9⟩, hS.F ht⟩) hS.2.2 dX10_feeOf_35
set_option maxHeartbeats 4000000 in
set_option maxRecDepth 100000 in
theorem t_isBooth (l : Launch) (D : va_G) (h0 : Nat) (m_tape : Nat) (ln : Nat) (s_thrown : Int32) (m_rule : Nat) (m_rules : Nat) (sn : Nat) (m_stair : Nat) (s_readStairs : Int32) (s_fault : Int32) (s_faultPlace : Int32) (w : Nat) (h : Nat) (m_low : Nat) (m_high : Nat) (m_crack : Nat) (bc : Nat) (m_weight : Nat) (m_fire : Nat) (m_crowd : Nat) (m_state : Nat) (m_where : Nat) (s_hours : Int32) (s_fees : Int32) (s_looks : Int32) (m_words : Nat) (s_end : Int32) (s_next : Int32) (s_kind : Int32) (s_which : Int32) (s_place : Int32) (s_read : Int32) (m_told : Nat) (m_breaks : Nat) (m_row : Nat) (m_tried : Nat) (m_steps : Nat) (m_paths : Nat) (y_state : ClassId) (f_state : Nat → Int32) (x : Int32) (y : Int32) (hbc : bc ≤ 10) : cI l yX10_isBooth (.code yX10_isBooth cX10_isBooth 3 (some .boolean)) ({ frames := 0, cells := 0, slots := 0, locals := 0 }) D [(y_state, .int)] [(h0, Sum.inr (9, [Value.ref m_tape, Value.int (nI ln), Value.int s_thrown, Value.ref m_rule, Value.ref m_rules, Value.int (nI sn), Value.ref m_stair, Value.int s_readStairs, Value.int s_fault, Value.int s_faultPlace, Value.int (nI w), Value.int (nI h), Value.ref m_low, Value.ref m_high, Value.ref m_crack, Value.int (nI bc), Value.ref m_weight, Value.ref m_fire, Value.ref m_crowd, Value.ref m_state, Value.ref m_where, Value.int s_hours, Value.int s_fees, Value.int s_looks, Value.ref m_words, Value.int s_end, Value.int s_next, Value.int s_kind, Value.int s_which, Value.int s_place, Value.int s_read, Value.ref m_told, Value.ref m_breaks, Value.ref m_row, Value.ref m_tried, Value.ref m_steps, Value.ref m_paths])), (m_state, Sum.inl (y_state, 10, Sum.inl f_state))] xT [Value.ref h0, Value.int x, Value.int y] (S := Unit) (fun r _ => (r = 1 ∧ ∃ q : Nat, q < bc ∧ x = nI q ∧ f_state q = y) ∨ (r = 0 ∧ ∀ q : Nat, q < bc → x = nI q → ¬ f_state q = y)) (fun _ => []) (fun _ => [(h0, Sum.inr (9, [Value.ref m_tape, Value.int (nI ln), Value.int s_thrown, Value.ref m_rule, Value.ref m_rules, Value.int (nI sn), Value.ref m_stair, Value.int s_readStairs, Value.int s_fault, Value.int s_faultPlace, Value.int (nI w), Value.int (nI h), Value.ref m_low, Value.ref m_high, Value.ref m_crack, Value.int (nI bc), Value.ref m_weight, Value.ref m_fire, Value.ref m_crowd, Value.ref m_state, Value.ref m_where, Value.int s_hours, Value.int s_fees, Value.int s_looks, Value.ref m_words, Value.int s_end, Value.int s_next, Value.int s_kind, Value.int s_which, Value.int s_place, Value.int s_read, Value.ref m_told, Value.ref m_breaks, Value.ref m_row, Value.ref m_tried, Value.ref m_steps, Value.ref m_paths])), (m_state, Sum.inl (y_state, 10, Sum.inl f_state))]) := by
  intro sz
  refine Met.ofW (cc := cX10_isBooth) (maxL := 3) (ret := (some .boolean)) (by decide) rfl ?_
  intro p e s m args below meth c s₁ B hml hv
  obtain ⟨rfl, hsz, hP, hK, hD0, hX⟩ := hv
  have hx := B.exec
  have hb := B.bytes
  have hr := B.returns
  have hts0 := atoms_spec (ws := .code yX10_isBooth cX10_isBooth 3 (some .boolean) :: gw) B.pre
  have hts := fun (w : Cond) (h : w ∈ gw) => hts0 w (List.mem_cons_of_mem _ h)
  have hown : s.vm.findClass RX10 = some m.cls := findClass_of_methodNamed B.named
  have hlocks := B.notSynchronized
  have F : mFix p s m _ c cX10_isBooth 3 RX10 := ⟨hx, hb, hml, hown, hts⟩
  subst hsz
  have hD := hD0.self (sz := s.heap.size)
  generalize hAe : va_A [(h0, Sum.inr (9, [Value.ref m_tape, Value.int (nI ln), Value.int s_thrown, Value.ref m_rule, Value.ref m_rules, Value.int (nI sn), Value.ref m_stair, Value.int s_readStairs, Value.int s_fault, Value.int s_faultPlace, Value.int (nI w), Value.int (nI h), Value.ref m_low, Value.ref m_high, Value.ref m_crack, Value.int (nI bc), Value.ref m_weight, Value.ref m_fire, Value.ref m_crowd, Value.ref m_state, Value.ref m_where, Value.int s_hours, Value.int s_fees, Value.int s_looks, Value.ref m_words, Value.int s_end, Value.int s_next, Value.int s_kind, Value.int s_which, Value.int s_place, Value.int s_read, Value.ref m_told, Value.ref m_breaks, Value.ref m_row, Value.ref m_tried, Value.ref m_steps, Value.ref m_paths])), (m_state, Sum.inl (y_state, 10, Sum.inl f_state))] s.heap.size = A at hD hX ⊢
  have hA : ∀ q : Nat, s.heap.size ≤ q → A q := fun q h => by rw [← hAe]; exact Or.inr h
  have hS : va_S A s.heap s.heap [] := va_S.rf
  have hl := lv_entry ([Value.ref h0, Value.int x, Value.int y]) (n := 3) (Nat.le_of_ble_eq_true rfl)
  rw [lg_entry_eq]
  generalize (lg_sl ([Value.ref h0, Value.int x, Value.int y]) ++ List.replicate (3 - (lg_sl ([Value.ref h0, Value.int x, Value.int y])).length) Slot.unset).toArray = ls at hl ⊢
  have hl : lv_has ls 3 [(0, Value.ref h0), (1, Value.int x), (2, Value.int y)] := hl
  have hP : va_P D vwCl [(h0, Sum.inr (9, [Value.ref m_tape, Value.int (nI ln), Value.int s_thrown, Value.ref m_rule, Value.ref m_rules, Value.int (nI sn), Value.ref m_stair, Value.int s_readStairs, Value.int s_fault, Value.int s_faultPlace, Value.int (nI w), Value.int (nI h), Value.ref m_low, Value.ref m_high, Value.ref m_crack, Value.int (nI bc), Value.ref m_weight, Value.ref m_fire, Value.ref m_crowd, Value.ref m_state, Value.ref m_where, Value.int s_hours, Value.int s_fees, Value.int s_looks, Value.ref m_words, Value.int s_end, Value.int s_next, Value.int s_kind, Value.int s_which, Value.int s_place, Value.int s_read, Value.ref m_told, Value.ref m_breaks, Value.ref m_row, Value.ref m_tried, Value.ref m_steps, Value.ref m_paths])), (m_state, Sum.inl (y_state, 10, Sum.inl f_state))] s.heap := hP
  refine lv_iload_n hx hb dX10_isBooth_0 rfl (lv_at hl 1 rfl) ?_
  refine lv_if_lt (tgt := 26) hx hb dX10_isBooth_1 (by decide) (fun c_1 => ?_) (fun c_1 => ?_)
  · skip
    refine lv_iconst (v := 0) hx hb dX10_isBooth_26 (by decide) ?_
    have hP9 := hP.sub (ws' := [(h0, Sum.inr (9, [Value.ref m_tape, Value.int (nI ln), Value.int s_thrown, Value.ref m_rule, Value.ref m_rules, Value.int (nI sn), Value.ref m_stair, Value.int s_readStairs, Value.int s_fault, Value.int s_faultPlace, Value.int (nI w), Value.int (nI h), Value.ref m_low, Value.ref m_high, Value.ref m_crack, Value.int (nI bc), Value.ref m_weight, Value.ref m_fire, Value.ref m_crowd, Value.ref m_state, Value.ref m_where, Value.int s_hours, Value.int s_fees, Value.int s_looks, Value.ref m_words, Value.int s_end, Value.int s_next, Value.int s_kind, Value.int s_which, Value.int s_place, Value.int s_read, Value.ref m_told, Value.ref m_breaks, Value.ref m_row, Value.ref m_tried, Value.ref m_steps, Value.ref m_paths])), (m_state, Sum.inl (y_state, 10, Sum.inl f_state))]) [0, 1] rfl
    have hD9 := hD.sub (ws' := [(h0, Sum.inr (9, [Value.ref m_tape, Value.int (nI ln), Value.int s_thrown, Value.ref m_rule, Value.ref m_rules, Value.int (nI sn), Value.ref m_stair, Value.int s_readStairs, Value.int s_fault, Value.int s_faultPlace, Value.int (nI w), Value.int (nI h), Value.ref m_low, Value.ref m_high, Value.ref m_crack, Value.int (nI bc), Value.ref m_weight, Value.ref m_fire, Value.ref m_crowd, Value.ref m_state, Value.ref m_where, Value.int s_hours, Value.int s_fees, Value.int s_looks, Value.ref m_words, Value.int s_end, Value.int s_next, Value.int s_kind, Value.int s_which, Value.int s_place, Value.int s_read, Value.ref m_told, Value.ref m_breaks, Value.ref m_row, Value.ref m_tried, Value.ref m_steps, Value.ref m_paths])), (m_state, Sum.inl (y_state, 10, Sum.inl f_state))]) [0, 1] (by decide) rfl
    have hK9 := hK.sub (tys' := []) [] rfl
    refine W.widen (k := 0) (n := 0) (by decide) (by decide) ?_
    exact W.zret (v := 0) hx hb hr rfl (fun t ht hW => ⟨⟨0, (), rfl, Or.inr ⟨rfl, fun q hq e => absurd c_1 (by rw [e]; exact nI_pos (by omega))⟩, by rw [ht]; exact hP9, va_K.moved hW.alike hK9, hD9⟩, hS.F ht⟩) hS.2.2 dX10_isBooth_27
  · skip
    refine lv_iload_n hx hb dX10_isBooth_4 rfl (lv_at hl 1 rfl) ?_
    refine lv_aload_n hx hb dX10_isBooth_5 rfl (lv_at hl 0 rfl) ?_
    refine va_get (D := D) (ci := 9) (v := Value.int (nI bc)) (C := RX10) (T := TX10) (N := 37) hx hb hts inG_X10 hown hK hP 0 rfl rfl 15 (by decide) (hts _ kw_4_210) (fun _ h9 => h9) rfl dX10_isBooth_6 ?_
    refine lv_icmp_ge (tgt := 26) hx hb dX10_isBooth_9 (by decide) (fun c_2 => ?_) (fun c_2 => ?_)
    · skip
      have c_2 := Int32.not_lt.mpr c_2
      refine lv_iconst (v := 0) hx hb dX10_isBooth_26 (by decide) ?_
      have hP9 := hP.sub (ws' := [(h0, Sum.inr (9, [Value.ref m_tape, Value.int (nI ln), Value.int s_thrown, Value.ref m_rule, Value.ref m_rules, Value.int (nI sn), Value.ref m_stair, Value.int s_readStairs, Value.int s_fault, Value.int s_faultPlace, Value.int (nI w), Value.int (nI h), Value.ref m_low, Value.ref m_high, Value.ref m_crack, Value.int (nI bc), Value.ref m_weight, Value.ref m_fire, Value.ref m_crowd, Value.ref m_state, Value.ref m_where, Value.int s_hours, Value.int s_fees, Value.int s_looks, Value.ref m_words, Value.int s_end, Value.int s_next, Value.int s_kind, Value.int s_which, Value.int s_place, Value.int s_read, Value.ref m_told, Value.ref m_breaks, Value.ref m_row, Value.ref m_tried, Value.ref m_steps, Value.ref m_paths])), (m_state, Sum.inl (y_state, 10, Sum.inl f_state))]) [0, 1] rfl
      have hD9 := hD.sub (ws' := [(h0, Sum.inr (9, [Value.ref m_tape, Value.int (nI ln), Value.int s_thrown, Value.ref m_rule, Value.ref m_rules, Value.int (nI sn), Value.ref m_stair, Value.int s_readStairs, Value.int s_fault, Value.int s_faultPlace, Value.int (nI w), Value.int (nI h), Value.ref m_low, Value.ref m_high, Value.ref m_crack, Value.int (nI bc), Value.ref m_weight, Value.ref m_fire, Value.ref m_crowd, Value.ref m_state, Value.ref m_where, Value.int s_hours, Value.int s_fees, Value.int s_looks, Value.ref m_words, Value.int s_end, Value.int s_next, Value.int s_kind, Value.int s_which, Value.int s_place, Value.int s_read, Value.ref m_told, Value.ref m_breaks, Value.ref m_row, Value.ref m_tried, Value.ref m_steps, Value.ref m_paths])), (m_state, Sum.inl (y_state, 10, Sum.inl f_state))]) [0, 1] (by decide) rfl
      have hK9 := hK.sub (tys' := []) [] rfl
      refine W.widen (k := 0) (n := 0) (by decide) (by decide) ?_
      exact W.zret (v := 0) hx hb hr rfl (fun t ht hW => ⟨⟨0, (), rfl, Or.inr ⟨rfl, fun q hq e => absurd ((nI_ltI (by omega) (by omega)).mpr hq) (by rw [← e]; exact c_2)⟩, by rw [ht]; exact hP9, va_K.moved hW.alike hK9, hD9⟩, hS.F ht⟩) hS.2.2 dX10_isBooth_27
    · skip
      have c_2 := Int32.not_le.mp c_2
      obtain ⟨jx, hjx, ejx⟩ := n_lt (N := bc) c_1 (Int32.not_le.mpr c_2) (by omega)
      subst ejx
      have hl : lv_has ls 3 [(0, Value.ref h0), (1, Value.int (nI jx)), (2, Value.int y)] := hl
      refine lv_aload_n hx hb dX10_isBooth_12 rfl (lv_at hl 0 rfl) ?_
      refine va_get (D := D) (ci := 9) (v := Value.ref m_state) (C := RX10) (T := TX10) (N := 37) hx hb hts inG_X10 hown hK hP 0 rfl rfl 19 (by decide) (hts _ kw_4_214) (fun _ h9 => h9) rfl dX10_isBooth_13 ?_
      refine lv_iload_n hx hb dX10_isBooth_16 rfl (lv_at hl 1 rfl) ?_
      refine m_iald hx hb hK hP 1 0 rfl rfl jx rfl (by omega) (by decide) dX10_isBooth_17 ?_
      refine lv_topi (fun v_3 ev_3 => ?_)
      refine lv_iload_n hx hb dX10_isBooth_18 rfl (lv_at hl 2 rfl) ?_
      refine lv_icmp_ne (tgt := 26) hx hb dX10_isBooth_19 (by decide) (fun c_4 => ?_) (fun c_4 => ?_)
      · skip
        refine lv_iconst (v := 0) hx hb dX10_isBooth_26 (by decide) ?_
        have hP9 := hP.sub (ws' := [(h0, Sum.inr (9, [Value.ref m_tape, Value.int (nI ln), Value.int s_thrown, Value.ref m_rule, Value.ref m_rules, Value.int (nI sn), Value.ref m_stair, Value.int s_readStairs, Value.int s_fault, Value.int s_faultPlace, Value.int (nI w), Value.int (nI h), Value.ref m_low, Value.ref m_high, Value.ref m_crack, Value.int (nI bc), Value.ref m_weight, Value.ref m_fire, Value.ref m_crowd, Value.ref m_state, Value.ref m_where, Value.int s_hours, Value.int s_fees, Value.int s_looks, Value.ref m_words, Value.int s_end, Value.int s_next, Value.int s_kind, Value.int s_which, Value.int s_place, Value.int s_read, Value.ref m_told, Value.ref m_breaks, Value.ref m_row, Value.ref m_tried, Value.ref m_steps, Value.ref m_paths])), (m_state, Sum.inl (y_state, 10, Sum.inl f_state))]) [0, 1] rfl
        have hD9 := hD.sub (ws' := [(h0, Sum.inr (9, [Value.ref m_tape, Value.int (nI ln), Value.int s_thrown, Value.ref m_rule, Value.ref m_rules, Value.int (nI sn), Value.ref m_stair, Value.int s_readStairs, Value.int s_fault, Value.int s_faultPlace, Value.int (nI w), Value.int (nI h), Value.ref m_low, Value.ref m_high, Value.ref m_crack, Value.int (nI bc), Value.ref m_weight, Value.ref m_fire, Value.ref m_crowd, Value.ref m_state, Value.ref m_where, Value.int s_hours, Value.int s_fees, Value.int s_looks, Value.ref m_words, Value.int s_end, Value.int s_next, Value.int s_kind, Value.int s_which, Value.int s_place, Value.int s_read, Value.ref m_told, Value.ref m_breaks, Value.ref m_row, Value.ref m_tried, Value.ref m_steps, Value.ref m_paths])), (m_state, Sum.inl (y_state, 10, Sum.inl f_state))]) [0, 1] (by decide) rfl
        have hK9 := hK.sub (tys' := []) [] rfl
        refine W.widen (k := 0) (n := 0) (by decide) (by decide) ?_
        exact W.zret (v := 0) hx hb hr rfl (fun t ht hW => ⟨⟨0, (), rfl, Or.inr ⟨rfl, fun q hq e s => by obtain rfl : jx = q := (nI_eq (by omega) (by omega)).mp e; exact c_4 (by rw [ev_3]; exact s)⟩, by rw [ht]; exact hP9, va_K.moved hW.alike hK9, hD9⟩, hS.F ht⟩) hS.2.2 dX10_isBooth_27
      · skip
        refine lv_iconst (v := 1) hx hb dX10_isBooth_22 (by decide) ?_
        refine lv_goto (tgt := 27) hx hb dX10_isBooth_23 (by decide) ?_
        have hP9 := hP.sub (ws' := [(h0, Sum.inr (9, [Value.ref m_tape, Value.int (nI ln), Value.int s_thrown, Value.ref m_rule, Value.ref m_rules, Value.int (nI sn), Value.ref m_stair, Value.int s_readStairs, Value.int s_fault, Value.int s_faultPlace, Value.int (nI w), Value.int (nI h), Value.ref m_low, Value.ref m_high, Value.ref m_crack, Value.int (nI bc), Value.ref m_weight, Value.ref m_fire, Value.ref m_crowd, Value.ref m_state, Value.ref m_where, Value.int s_hours, Value.int s_fees, Value.int s_looks, Value.ref m_words, Value.int s_end, Value.int s_next, Value.int s_kind, Value.int s_which, Value.int s_place, Value.int s_read, Value.ref m_told, Value.ref m_breaks, Value.ref m_row, Value.ref m_tried, Value.ref m_steps, Value.ref m_paths])), (m_state, Sum.inl (y_state, 10, Sum.inl f_state))]) [0, 1] rfl
        have hD9 := hD.sub (ws' := [(h0, Sum.inr (9, [Value.ref m_tape, Value.int (nI ln), Value.int s_thrown, Value.ref m_rule, Value.ref m_rules, Value.int (nI sn), Value.ref m_stair, Value.int s_readStairs, Value.int s_fault, Value.int s_faultPlace, Value.int (nI w), Value.int (nI h), Value.ref m_low, Value.ref m_high, Value.ref m_crack, Value.int (nI bc), Value.ref m_weight, Value.ref m_fire, Value.ref m_crowd, Value.ref m_state, Value.ref m_where, Value.int s_hours, Value.int s_fees, Value.int s_looks, Value.ref m_words, Value.int s_end, Value.int s_next, Value.int s_kind, Value.int s_which, Value.int s_place, Value.int s_read, Value.ref m_told, Value.ref m_breaks, Value.ref m_row, Value.ref m_tried, Value.ref m_steps, Value.ref m_paths])), (m_state, Sum.inl (y_state, 10, Sum.inl f_state))]) [0, 1] (by decide) rfl
        have hK9 := hK.sub (tys' := []) [] rfl
        refine W.widen (k := 0) (n := 0) (by decide) (by decide) ?_
        exact W.zret (v := 1) hx hb hr rfl (fun t ht hW => ⟨⟨1, (), rfl, Or.inl ⟨rfl, jx, hjx, rfl, by rw [← ev_3]; exact c_4⟩, by rw [ht]; exact hP9, va_K.moved hW.alike hK9, hD9⟩, hS.F ht⟩) hS.2.2 dX10_isBooth_27
