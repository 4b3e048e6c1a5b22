set_option maxHeartbeats 4000000 in
set_option maxRecDepth 100000 in
theorem lp_t_isSet {p : Program} {l : Launch} {e : Env} {s : State} {m : MethodId} {args : Array Value} {below : List Frame} {meth : Method} {c : Code} {Q : State → Prop} {A : Nat → Prop} {D : va_G} (F : mFix p s m args c cX10_isSet 3 RX10) (hA : ∀ q, s.heap.size ≤ q → A q) (h0 : Nat) (m_tape : Nat) (ln : Nat) (s_thrown : Int32) (m_rule : Nat) (m_rules : Nat) (sn : Nat) (m_stair : Nat) (s_readStairs : Int32) (s_fault : Int32) (s_faultPlace : Int32) (w : Nat) (h : Nat) (m_low : Nat) (m_high : Nat) (m_crack : Nat) (bc : Nat) (m_weight : Nat) (m_fire : Nat) (m_crowd : Nat) (m_state : Nat) (m_where : Nat) (s_hours : Int32) (s_fees : Int32) (s_looks : Int32) (m_words : Nat) (s_end : Int32) (s_next : Int32) (s_kind : Int32) (s_which : Int32) (s_place : Int32) (s_read : Int32) (m_told : Nat) (m_breaks : Nat) (m_row : Nat) (m_tried : Nat) (m_steps : Nat) (m_paths : Nat) (y_state : ClassId) (f_state : Nat → Int32) (g : Nat) (hK : va_K D vwCl [(y_state, .int)] s)
    (kx_26 : (¬ setP bc (fun j => f_state j = 1) g) → ∀ (H : Heap) (locs : List Loc), va_P D vwCl [(h0, Sum.inr (9, [Value.ref m_tape, Value.int (nI ln), Value.int s_thrown, Value.ref m_rule, Value.ref m_rules, Value.int (nI sn), Value.ref m_stair, Value.int s_readStairs, Value.int s_fault, Value.int s_faultPlace, Value.int (nI w), Value.int (nI h), Value.ref m_low, Value.ref m_high, Value.ref m_crack, Value.int (nI bc), Value.ref m_weight, Value.ref m_fire, Value.ref m_crowd, Value.ref m_state, Value.ref m_where, Value.int s_hours, Value.int s_fees, Value.int s_looks, Value.ref m_words, Value.int s_end, Value.int s_next, Value.int s_kind, Value.int s_which, Value.int s_place, Value.int s_read, Value.ref m_told, Value.ref m_breaks, Value.ref m_row, Value.ref m_tried, Value.ref m_steps, Value.ref m_paths])), (m_state, Sum.inl (y_state, 10, Sum.inl f_state))] H → va_D A [(h0, Sum.inr (9, [Value.ref m_tape, Value.int (nI ln), Value.int s_thrown, Value.ref m_rule, Value.ref m_rules, Value.int (nI sn), Value.ref m_stair, Value.int s_readStairs, Value.int s_fault, Value.int s_faultPlace, Value.int (nI w), Value.int (nI h), Value.ref m_low, Value.ref m_high, Value.ref m_crack, Value.int (nI bc), Value.ref m_weight, Value.ref m_fire, Value.ref m_crowd, Value.ref m_state, Value.ref m_where, Value.int s_hours, Value.int s_fees, Value.int s_looks, Value.ref m_words, Value.int s_end, Value.int s_next, Value.int s_kind, Value.int s_which, Value.int s_place, Value.int s_read, Value.ref m_told, Value.ref m_breaks, Value.ref m_row, Value.ref m_tried, Value.ref m_steps, Value.ref m_paths])), (m_state, Sum.inl (y_state, 10, Sum.inl f_state))] → va_S A s.heap H locs → ∀ ls : Array Slot, lv_has ls 3 [] → W p l e ({ frames := 1, cells := 0, slots := 0, locals := 22 }) s m args below meth c H locs 0 0 Q (F0 m 26 ls []))
    (kx_34 : (∀ j, j < 10 → g.testBit j = true → j < bc ∧ f_state j = 1) → ∀ (H : Heap) (locs : List Loc), va_P D vwCl [(h0, Sum.inr (9, [Value.ref m_tape, Value.int (nI ln), Value.int s_thrown, Value.ref m_rule, Value.ref m_rules, Value.int (nI sn), Value.ref m_stair, Value.int s_readStairs, Value.int s_fault, Value.int s_faultPlace, Value.int (nI w), Value.int (nI h), Value.ref m_low, Value.ref m_high, Value.ref m_crack, Value.int (nI bc), Value.ref m_weight, Value.ref m_fire, Value.ref m_crowd, Value.ref m_state, Value.ref m_where, Value.int s_hours, Value.int s_fees, Value.int s_looks, Value.ref m_words, Value.int s_end, Value.int s_next, Value.int s_kind, Value.int s_which, Value.int s_place, Value.int s_read, Value.ref m_told, Value.ref m_breaks, Value.ref m_row, Value.ref m_tried, Value.ref m_steps, Value.ref m_paths])), (m_state, Sum.inl (y_state, 10, Sum.inl f_state))] H → va_D A [(h0, Sum.inr (9, [Value.ref m_tape, Value.int (nI ln), Value.int s_thrown, Value.ref m_rule, Value.ref m_rules, Value.int (nI sn), Value.ref m_stair, Value.int s_readStairs, Value.int s_fault, Value.int s_faultPlace, Value.int (nI w), Value.int (nI h), Value.ref m_low, Value.ref m_high, Value.ref m_crack, Value.int (nI bc), Value.ref m_weight, Value.ref m_fire, Value.ref m_crowd, Value.ref m_state, Value.ref m_where, Value.int s_hours, Value.int s_fees, Value.int s_looks, Value.ref m_words, Value.int s_end, Value.int s_next, Value.int s_kind, Value.int s_which, Value.int s_place, Value.int s_read, Value.ref m_told, Value.ref m_breaks, Value.ref m_row, Value.ref m_tried, Value.ref m_steps, Value.ref m_paths])), (m_state, Sum.inl (y_state, 10, Sum.inl f_state))] → va_S A s.heap H locs → ∀ ls : Array Slot, lv_has ls 3 [] → W p l e ({ frames := 1, cells := 0, slots := 0, locals := 22 }) s m args below meth c H locs 0 0 Q (F0 m 34 ls [])) :
    ∀ n : Nat, ∀ (i : Nat), (i ≤ 10) → (bc ≤ 10) → (g < 1024) → (∀ j, j < i → g.testBit j = true → j < bc ∧ f_state j = 1) → (10 - i) < n → ∀ (H : Heap) (locs : List Loc), va_P D vwCl [(h0, Sum.inr (9, [Value.ref m_tape, Value.int (nI ln), Value.int s_thrown, Value.ref m_rule, Value.ref m_rules, Value.int (nI sn), Value.ref m_stair, Value.int s_readStairs, Value.int s_fault, Value.int s_faultPlace, Value.int (nI w), Value.int (nI h), Value.ref m_low, Value.ref m_high, Value.ref m_crack, Value.int (nI bc), Value.ref m_weight, Value.ref m_fire, Value.ref m_crowd, Value.ref m_state, Value.ref m_where, Value.int s_hours, Value.int s_fees, Value.int s_looks, Value.ref m_words, Value.int s_end, Value.int s_next, Value.int s_kind, Value.int s_which, Value.int s_place, Value.int s_read, Value.ref m_told, Value.ref m_breaks, Value.ref m_row, Value.ref m_tried, Value.ref m_steps, Value.ref m_paths])), (m_state, Sum.inl (y_state, 10, Sum.inl f_state))] H → va_D A [(h0, Sum.inr (9, [Value.ref m_tape, Value.int (nI ln), Value.int s_thrown, Value.ref m_rule, Value.ref m_rules, Value.int (nI sn), Value.ref m_stair, Value.int s_readStairs, Value.int s_fault, Value.int s_faultPlace, Value.int (nI w), Value.int (nI h), Value.ref m_low, Value.ref m_high, Value.ref m_crack, Value.int (nI bc), Value.ref m_weight, Value.ref m_fire, Value.ref m_crowd, Value.ref m_state, Value.ref m_where, Value.int s_hours, Value.int s_fees, Value.int s_looks, Value.ref m_words, Value.int s_end, Value.int s_next, Value.int s_kind, Value.int s_which, Value.int s_place, Value.int s_read, Value.ref m_told, Value.ref m_breaks, Value.ref m_row, Value.ref m_tried, Value.ref m_steps, Value.ref m_paths])), (m_state, Sum.inl (y_state, 10, Sum.inl f_state))] → va_S A s.heap H locs → ∀ ls : Array Slot, lv_has ls 3 [(0, Value.ref h0), (1, Value.int (nI g)), (2, Value.int (nI i))] → W p l e ({ frames := 1, cells := 0, slots := 0, locals := 22 }) s m args below meth c H locs 0 0 Q (F0 m 2 ls []) := by
  intro n
  induction n with
  | zero => intro i hi hbc hg his hn; exact absurd hn (Nat.not_lt_zero _)
  | succ n ih =>
    intro i hi hbc hg his hn H locs hP hD hS ls hl
    obtain ⟨hx, hb, hml, hown, hts⟩ := id F
    refine lv_iload_n hx hb dX10_isSet_2 rfl (lv_at hl 2 rfl) ?_
    refine lv_bipush (v := 10) hx hb dX10_isSet_3 (by decide) ?_
    refine lv_icmp_ge (tgt := 34) hx hb dX10_isSet_5 (by decide) (fun c_1 => ?_) (fun c_1 => ?_)
    · skip
      have c_1n : 10 ≤ i := (nI_leI (by omega) (by omega)).mp c_1
      have c_1 := Int32.not_lt.mpr c_1
      exact kx_34  ((show i = 10 by omega) ▸ his) H locs (hP.sub [0, 1] rfl) (hD.sub [0, 1] (by decide) rfl) hS ls (lv_sub hl [] rfl)
    · skip
      have c_1n : i < 10 := nb_le (by omega) (by omega) c_1
      have c_1 := Int32.not_le.mp c_1
      refine lv_iload_n hx hb dX10_isSet_8 rfl (lv_at hl 1 rfl) ?_
      refine lv_iload_n hx hb dX10_isSet_9 rfl (lv_at hl 2 rfl) ?_
      refine lv_ishr hx hb dX10_isSet_10 ?_
      refine lv_topi (fun z_2 ez_2 => ?_)
      refine lv_iconst (v := 1) hx hb dX10_isSet_11 (by decide) ?_
      refine lv_iand hx hb dX10_isSet_12 ?_
      refine lv_topi (fun z_3 ez_3 => ?_)
      refine lv_iconst (v := 1) hx hb dX10_isSet_13 (by decide) ?_
      refine lv_icmp_ne (tgt := 28) hx hb dX10_isSet_14 (by decide) (fun c_4 => ?_) (fun c_4 => ?_)
      · skip
        have hbt : ¬ g.testBit i = true := fun q => c_4 (by rw [ez_3, ez_2]; exact (sh_bit i (by omega) g (by omega)).mpr q)
        refine lv_iinc (v := nI (i + 1)) (lv' := [(2, Value.int (nI (i + 1))), (0, Value.ref h0), (1, Value.int (nI g))]) hx hb dX10_isSet_28 hl (k := 2) rfl (nI_add i 1) (by decide) rfl (fun ls hl => ?_)
        refine lv_goto (tgt := 2) hx hb dX10_isSet_31 (by decide) ?_
        exact ih (i + 1) (by omega) (by omega) (by omega) (fun j q1 q2 => by rcases (show j < i ∨ j = i by omega) with q | rfl; exact his j q q2; exact absurd q2 hbt) (by omega) H locs (hP.sub [0, 1] rfl) (hD.sub [0, 1] (by decide) rfl) hS ls (lv_sub hl [1, 2, 0] rfl)
      · skip
        have hbt : g.testBit i = true := (sh_bit i (by omega) g (by omega)).mp (by rw [← ez_2, ← ez_3]; exact c_4)
        refine lv_aload_n hx hb dX10_isSet_17 rfl (lv_at hl 0 rfl) ?_
        refine lv_iload_n hx hb dX10_isSet_18 rfl (lv_at hl 2 rfl) ?_
        refine lv_iconst (v := 1) hx hb dX10_isSet_19 (by decide) ?_
        refine mc_Vi (rest := []) (wr := []) F hK hP hD hS hA (t_isBooth l D h0 m_tape ln s_thrown m_rule m_rules sn m_stair s_readStairs s_fault s_faultPlace w h m_low m_high m_crack bc m_weight m_fire m_crowd m_state m_where s_hours s_fees s_looks m_words s_end s_next s_kind s_which s_place s_read m_told m_breaks m_row m_tried m_steps m_paths y_state f_state (nI i) 1 (by omega)) ⟨gk_X10_171.1, gk_X10_171.2, Nat.le_of_ble_eq_true rfl, Nat.le_of_ble_eq_true rfl⟩ [0, 1] [] [0] ⟨rfl, rfl, rfl, rfl, by decide⟩ rfl xT_move (fun _ _ _ => trivial) 0 rfl rfl rfl hl.1 rfl (Nat.le_of_ble_eq_true rfl) dX10_isSet_20 ⟨Nat.le_of_ble_eq_true rfl, Nat.le_of_ble_eq_true rfl⟩ (fun r_5 _ H locs hw hK1 hP hD hS => ?_)
        have hP : va_P D vwCl [(h0, Sum.inr (9, [Value.ref m_tape, Value.int (nI ln), Value.int s_thrown, Value.ref m_rule, Value.ref m_rules, Value.int (nI sn), Value.ref m_stair, Value.int s_readStairs, Value.int s_fault, Value.int s_faultPlace, Value.int (nI w), Value.int (nI h), Value.ref m_low, Value.ref m_high, Value.ref m_crack, Value.int (nI bc), Value.ref m_weight, Value.ref m_fire, Value.ref m_crowd, Value.ref m_state, Value.ref m_where, Value.int s_hours, Value.int s_fees, Value.int s_looks, Value.ref m_words, Value.int s_end, Value.int s_next, Value.int s_kind, Value.int s_which, Value.int s_place, Value.int s_read, Value.ref m_told, Value.ref m_breaks, Value.ref m_row, Value.ref m_tried, Value.ref m_steps, Value.ref m_paths])), (m_state, Sum.inl (y_state, 10, Sum.inl f_state))] H := hP
        have hD : va_D A [(h0, Sum.inr (9, [Value.ref m_tape, Value.int (nI ln), Value.int s_thrown, Value.ref m_rule, Value.ref m_rules, Value.int (nI sn), Value.ref m_stair, Value.int s_readStairs, Value.int s_fault, Value.int s_faultPlace, Value.int (nI w), Value.int (nI h), Value.ref m_low, Value.ref m_high, Value.ref m_crack, Value.int (nI bc), Value.ref m_weight, Value.ref m_fire, Value.ref m_crowd, Value.ref m_state, Value.ref m_where, Value.int s_hours, Value.int s_fees, Value.int s_looks, Value.ref m_words, Value.int s_end, Value.int s_next, Value.int s_kind, Value.int s_which, Value.int s_place, Value.int s_read, Value.ref m_told, Value.ref m_breaks, Value.ref m_row, Value.ref m_tried, Value.ref m_steps, Value.ref m_paths])), (m_state, Sum.inl (y_state, 10, Sum.inl f_state))] := hD
        have hw_6 : (r_5 = 1 ∧ ∃ q : Nat, q < bc ∧ (nI i) = nI q ∧ f_state q = 1) ∨ (r_5 = 0 ∧ ∀ q : Nat, q < bc → (nI i) = nI q → ¬ f_state q = 1) := hw
        rcases hw_6 with ⟨hr9, q9, hq9, eq9, sq9⟩ | ⟨hr9, hnb⟩
        · skip
          subst hr9
          have hqi : i = q9 := (nI_eq (by omega) (by omega)).mp eq9
          refine lv_if_ne (tgt := 28) hx hb dX10_isSet_23 (by decide) (fun c_7 => ?_) (fun c_7 => absurd c_7 (by decide))
          refine lv_iinc (v := nI (i + 1)) (lv' := [(2, Value.int (nI (i + 1))), (0, Value.ref h0), (1, Value.int (nI g))]) hx hb dX10_isSet_28 hl (k := 2) rfl (nI_add i 1) (by decide) rfl (fun ls hl => ?_)
          refine lv_goto (tgt := 2) hx hb dX10_isSet_31 (by decide) ?_
          exact ih (i + 1) (by omega) (by omega) (by omega) (fun j q1 q2 => by rcases (show j < i ∨ j = i by omega) with q | rfl; exact his j q q2; exact ⟨by omega, by rw [hqi]; exact sq9⟩) (by omega) H locs (hP.sub [0, 1] rfl) (hD.sub [0, 1] (by decide) rfl) hS ls (lv_sub hl [1, 2, 0] rfl)
        · skip
          subst hr9
          refine lv_if_ne (tgt := 28) hx hb dX10_isSet_23 (by decide) (fun c_8 => absurd c_8 (by decide)) (fun c_8 => ?_)
          exact kx_26  (fun q => hnb i (q i (by omega) hbt).1 rfl (q i (by omega) hbt).2) H locs (hP.sub [0, 1] rfl) (hD.sub [0, 1] (by decide) rfl) hS ls (lv_sub hl [] rfl)
set_option maxHeartbeats 4000000 in
set_option maxRecDepth 100000 in
theorem t_isSet (l : Launch) (D : va_G) (h0 : Nat) (m_tape : Nat) (ln : Nat) (s_thrown : Int32) (m_rule : Nat) (m_rules : Nat) (sn : Nat) (m_stair : Nat) (s_readStairs : Int32) (s_fault : Int32) (s_faultPlace : Int32) (w : Nat) (h : Nat) (m_low : Nat) (m_high : Nat) (m_crack : Nat) (bc : Nat) (m_weight : Nat) (m_fire : Nat) (m_crowd : Nat) (m_state : Nat) (m_where : Nat) (s_hours : Int32) (s_fees : Int32) (s_looks : Int32) (m_words : Nat) (s_end : Int32) (s_next : Int32) (s_kind : Int32) (s_which : Int32) (s_place : Int32) (s_read : Int32) (m_told : Nat) (m_breaks : Nat) (m_row : Nat) (m_tried : Nat) (m_steps : Nat) (m_paths : Nat) (y_state : ClassId) (f_state : Nat → Int32) (g : Nat) (hbc : bc ≤ 10) (hg : g < 1024) : cI l yX10_isSet (.code yX10_isSet cX10_isSet 3 (some .boolean)) ({ frames := 1, cells := 0, slots := 0, locals := 22 }) D [(y_state, .int)] [(h0, Sum.inr (9, [Value.ref m_tape, Value.int (nI ln), Value.int s_thrown, Value.ref m_rule, Value.ref m_rules, Value.int (nI sn), Value.ref m_stair, Value.int s_readStairs, Value.int s_fault, Value.int s_faultPlace, Value.int (nI w), Value.int (nI h), Value.ref m_low, Value.ref m_high, Value.ref m_crack, Value.int (nI bc), Value.ref m_weight, Value.ref m_fire, Value.ref m_crowd, Value.ref m_state, Value.ref m_where, Value.int s_hours, Value.int s_fees, Value.int s_looks, Value.ref m_words, Value.int s_end, Value.int s_next, Value.int s_kind, Value.int s_which, Value.int s_place, Value.int s_read, Value.ref m_told, Value.ref m_breaks, Value.ref m_row, Value.ref m_tried, Value.ref m_steps, Value.ref m_paths])), (m_state, Sum.inl (y_state, 10, Sum.inl f_state))] xT [Value.ref h0, Value.int (nI g)] (S := Unit) (fun r _ => (r = 1 ∧ setP bc (fun j => f_state j = 1) g) ∨ (r = 0 ∧ ¬ setP bc (fun j => f_state j = 1) g)) (fun _ => []) (fun _ => [(h0, Sum.inr (9, [Value.ref m_tape, Value.int (nI ln), Value.int s_thrown, Value.ref m_rule, Value.ref m_rules, Value.int (nI sn), Value.ref m_stair, Value.int s_readStairs, Value.int s_fault, Value.int s_faultPlace, Value.int (nI w), Value.int (nI h), Value.ref m_low, Value.ref m_high, Value.ref m_crack, Value.int (nI bc), Value.ref m_weight, Value.ref m_fire, Value.ref m_crowd, Value.ref m_state, Value.ref m_where, Value.int s_hours, Value.int s_fees, Value.int s_looks, Value.ref m_words, Value.int s_end, Value.int s_next, Value.int s_kind, Value.int s_which, Value.int s_place, Value.int s_read, Value.ref m_told, Value.ref m_breaks, Value.ref m_row, Value.ref m_tried, Value.ref m_steps, Value.ref m_paths])), (m_state, Sum.inl (y_state, 10, Sum.inl f_state))]) := by
  intro sz
  refine Met.ofW (cc := cX10_isSet) (maxL := 3) (ret := (some .boolean)) (by decide) rfl ?_
  intro p e s m args below meth c s₁ B hml hv
  obtain ⟨rfl, hsz, hP, hK, hD0, hX⟩ := hv
  have hx := B.exec
  have hb := B.bytes
  have hr := B.returns
  have hts0 := atoms_spec (ws := .code yX10_isSet cX10_isSet 3 (some .boolean) :: gw) B.pre
  have hts := fun (w : Cond) (h : w ∈ gw) => hts0 w (List.mem_cons_of_mem _ h)
  have hown : s.vm.findClass RX10 = some m.cls := findClass_of_methodNamed B.named
  have hlocks := B.notSynchronized
  have F : mFix p s m _ c cX10_isSet 3 RX10 := ⟨hx, hb, hml, hown, hts⟩
  subst hsz
  have hD := hD0.self (sz := s.heap.size)
  generalize hAe : va_A [(h0, Sum.inr (9, [Value.ref m_tape, Value.int (nI ln), Value.int s_thrown, Value.ref m_rule, Value.ref m_rules, Value.int (nI sn), Value.ref m_stair, Value.int s_readStairs, Value.int s_fault, Value.int s_faultPlace, Value.int (nI w), Value.int (nI h), Value.ref m_low, Value.ref m_high, Value.ref m_crack, Value.int (nI bc), Value.ref m_weight, Value.ref m_fire, Value.ref m_crowd, Value.ref m_state, Value.ref m_where, Value.int s_hours, Value.int s_fees, Value.int s_looks, Value.ref m_words, Value.int s_end, Value.int s_next, Value.int s_kind, Value.int s_which, Value.int s_place, Value.int s_read, Value.ref m_told, Value.ref m_breaks, Value.ref m_row, Value.ref m_tried, Value.ref m_steps, Value.ref m_paths])), (m_state, Sum.inl (y_state, 10, Sum.inl f_state))] s.heap.size = A at hD hX ⊢
  have hA : ∀ q : Nat, s.heap.size ≤ q → A q := fun q h => by rw [← hAe]; exact Or.inr h
  have hS : va_S A s.heap s.heap [] := va_S.rf
  have hl := lv_entry ([Value.ref h0, Value.int (nI g)]) (n := 3) (Nat.le_of_ble_eq_true rfl)
  rw [lg_entry_eq]
  generalize (lg_sl ([Value.ref h0, Value.int (nI g)]) ++ List.replicate (3 - (lg_sl ([Value.ref h0, Value.int (nI g)])).length) Slot.unset).toArray = ls at hl ⊢
  have hl : lv_has ls 3 [(0, Value.ref h0), (1, Value.int (nI g))] := hl
  have hP : va_P D vwCl [(h0, Sum.inr (9, [Value.ref m_tape, Value.int (nI ln), Value.int s_thrown, Value.ref m_rule, Value.ref m_rules, Value.int (nI sn), Value.ref m_stair, Value.int s_readStairs, Value.int s_fault, Value.int s_faultPlace, Value.int (nI w), Value.int (nI h), Value.ref m_low, Value.ref m_high, Value.ref m_crack, Value.int (nI bc), Value.ref m_weight, Value.ref m_fire, Value.ref m_crowd, Value.ref m_state, Value.ref m_where, Value.int s_hours, Value.int s_fees, Value.int s_looks, Value.ref m_words, Value.int s_end, Value.int s_next, Value.int s_kind, Value.int s_which, Value.int s_place, Value.int s_read, Value.ref m_told, Value.ref m_breaks, Value.ref m_row, Value.ref m_tried, Value.ref m_steps, Value.ref m_paths])), (m_state, Sum.inl (y_state, 10, Sum.inl f_state))] s.heap := hP
  refine lv_iconst (v := 0) hx hb dX10_isSet_0 (by decide) ?_
  refine lv_istore_n (lv' := [(2, Value.int 0), (0, Value.ref h0), (1, Value.int (nI g))]) hx hb dX10_isSet_1 rfl hl (by decide) rfl (fun ls hl => ?_)
  refine lp_t_isSet F hA h0 m_tape ln s_thrown m_rule m_rules sn m_stair s_readStairs s_fault s_faultPlace w h m_low m_high m_crack bc m_weight m_fire m_crowd m_state m_where s_hours s_fees s_looks m_words s_end s_next s_kind s_which s_place s_read m_told m_breaks m_row m_tried m_steps m_paths y_state f_state g (hK.sub [0] rfl) (fun  h_1 H locs hP hD hS ls hl => ?_) (fun  h_2 H locs hP hD hS ls hl => ?_) _ 0 (by omega) (by omega) (by omega) (fun j q => absurd q (Nat.not_lt_zero j)) (Nat.lt_succ_self _) _ _ (hP.sub [0, 1] rfl) (hD.sub [0, 1] (by decide) rfl) hS ls (lv_sub hl [1, 2, 0] rfl)
  · skip
    have h_1 : ¬ setP bc (fun j => f_state j = 1) g := h_1
    refine lv_iconst (v := 0) hx hb dX10_isSet_26 (by decide) ?_
    have hP9 := hP.sub (ws' := [(h0, Sum.inr (9, [Value.ref m_tape, Value.int (nI ln), Value.int s_thrown, Value.ref m_rule, Value.ref m_rules, Value.int (nI sn), Value.ref m_stair, Value.int s_readStairs, Value.int s_fault, Value.int s_faultPlace, Value.int (nI w), Value.int (nI h), Value.ref m_low, Value.ref m_high, Value.ref m_crack, Value.int (nI bc), Value.ref m_weight, Value.ref m_fire, Value.ref m_crowd, Value.ref m_state, Value.ref m_where, Value.int s_hours, Value.int s_fees, Value.int s_looks, Value.ref m_words, Value.int s_end, Value.int s_next, Value.int s_kind, Value.int s_which, Value.int s_place, Value.int s_read, Value.ref m_told, Value.ref m_breaks, Value.ref m_row, Value.ref m_tried, Value.ref m_steps, Value.ref m_paths])), (m_state, Sum.inl (y_state, 10, Sum.inl f_state))]) [0, 1] rfl
    have hD9 := hD.sub (ws' := [(h0, Sum.inr (9, [Value.ref m_tape, Value.int (nI ln), Value.int s_thrown, Value.ref m_rule, Value.ref m_rules, Value.int (nI sn), Value.ref m_stair, Value.int s_readStairs, Value.int s_fault, Value.int s_faultPlace, Value.int (nI w), Value.int (nI h), Value.ref m_low, Value.ref m_high, Value.ref m_crack, Value.int (nI bc), Value.ref m_weight, Value.ref m_fire, Value.ref m_crowd, Value.ref m_state, Value.ref m_where, Value.int s_hours, Value.int s_fees, Value.int s_looks, Value.ref m_words, Value.int s_end, Value.int s_next, Value.int s_kind, Value.int s_which, Value.int s_place, Value.int s_read, Value.ref m_told, Value.ref m_breaks, Value.ref m_row, Value.ref m_tried, Value.ref m_steps, Value.ref m_paths])), (m_state, Sum.inl (y_state, 10, Sum.inl f_state))]) [0, 1] (by decide) rfl
    have hK9 := hK.sub (tys' := []) [] rfl
    refine W.widen (k := 0) (n := 0) (by decide) (by decide) ?_
    exact W.zret (v := 0) hx hb hr rfl (fun t ht hW => ⟨⟨0, (), rfl, Or.inr ⟨rfl, h_1⟩, by rw [ht]; exact hP9, va_K.moved hW.alike hK9, hD9⟩, hS.F ht⟩) hS.2.2 dX10_isSet_27
  · skip
    have h_2 : ∀ j, j < 10 → g.testBit j = true → j < bc ∧ f_state j = 1 := h_2
    refine lv_iconst (v := 1) hx hb dX10_isSet_34 (by decide) ?_
    have hP9 := hP.sub (ws' := [(h0, Sum.inr (9, [Value.ref m_tape, Value.int (nI ln), Value.int s_thrown, Value.ref m_rule, Value.ref m_rules, Value.int (nI sn), Value.ref m_stair, Value.int s_readStairs, Value.int s_fault, Value.int s_faultPlace, Value.int (nI w), Value.int (nI h), Value.ref m_low, Value.ref m_high, Value.ref m_crack, Value.int (nI bc), Value.ref m_weight, Value.ref m_fire, Value.ref m_crowd, Value.ref m_state, Value.ref m_where, Value.int s_hours, Value.int s_fees, Value.int s_looks, Value.ref m_words, Value.int s_end, Value.int s_next, Value.int s_kind, Value.int s_which, Value.int s_place, Value.int s_read, Value.ref m_told, Value.ref m_breaks, Value.ref m_row, Value.ref m_tried, Value.ref m_steps, Value.ref m_paths])), (m_state, Sum.inl (y_state, 10, Sum.inl f_state))]) [0, 1] rfl
    have hD9 := hD.sub (ws' := [(h0, Sum.inr (9, [Value.ref m_tape, Value.int (nI ln), Value.int s_thrown, Value.ref m_rule, Value.ref m_rules, Value.int (nI sn), Value.ref m_stair, Value.int s_readStairs, Value.int s_fault, Value.int s_faultPlace, Value.int (nI w), Value.int (nI h), Value.ref m_low, Value.ref m_high, Value.ref m_crack, Value.int (nI bc), Value.ref m_weight, Value.ref m_fire, Value.ref m_crowd, Value.ref m_state, Value.ref m_where, Value.int s_hours, Value.int s_fees, Value.int s_looks, Value.ref m_words, Value.int s_end, Value.int s_next, Value.int s_kind, Value.int s_which, Value.int s_place, Value.int s_read, Value.ref m_told, Value.ref m_breaks, Value.ref m_row, Value.ref m_tried, Value.ref m_steps, Value.ref m_paths])), (m_state, Sum.inl (y_state, 10, Sum.inl f_state))]) [0, 1] (by decide) rfl
    have hK9 := hK.sub (tys' := []) [] rfl
    refine W.widen (k := 0) (n := 0) (by decide) (by decide) ?_
    exact W.zret (v := 1) hx hb hr rfl (fun t ht hW => ⟨⟨1, (), rfl, Or.inl ⟨rfl, h_2⟩, by rw [ht]; exact hP9, va_K.moved hW.alike hK9, hD9⟩, hS.F ht⟩) hS.2.2 dX10_isSet_35
set_option maxHeartbeats 4000000 in
set_option maxRecDepth 100000 in
theorem lp_t_over1 {p : Program} {l : Launch} {e : Env} {s : State} {m : MethodId} {args : Array Value} {below : List Frame} {meth : Method} {c : Code} {Q : State → Prop} {A : Nat → Prop} {D : va_G} (F : mFix p s m args c cX10_over 7 RX10) (hA : ∀ q, s.heap.size ≤ q → A q) (h0 : Nat) (m_tape : Nat) (ln : Nat) (s_thrown : Int32) (m_rule : Nat) (m_rules : Nat) (sn : Nat) (m_stair : Nat) (s_readStairs : Int32) (s_fault : Int32) (s_faultPlace : Int32) (w : Nat) (h : Nat) (m_low : Nat) (m_high : Nat) (m_crack : Nat) (bc : Nat) (m_weight : Nat) (m_fire : Nat) (m_crowd : Nat) (m_state : Nat) (m_where : Nat) (s_hours : Int32) (s_fees : Int32) (s_looks : Int32) (m_words : Nat) (s_end : Int32) (s_next : Int32) (s_kind : Int32) (s_which : Int32) (s_place : Int32) (s_read : Int32) (m_told : Nat) (m_breaks : Nat) (m_row : Nat) (m_tried : Nat) (m_steps : Nat) (m_paths : Nat) (y_state : ClassId) (f_state : Nat → Int32) (y_crowd : ClassId) (f_crowd : Nat → Int32) (y_paths : ClassId) (f_paths : Nat → Int32) (y_stair : ClassId) (f_stair : Nat → Int32) (g : Nat) (t9 : Nat) (cw : Nat → Nat) (hK : va_K D vwCl [(y_state, .int), (y_crowd, .int), (y_paths, .int), (y_stair, .int)] s)
    (kx_44 : ∀ (su : Nat), (su = menN cw g bc) → ∀ (H : Heap) (locs : List Loc), va_P D vwCl [(h0, Sum.inr (9, [Value.ref m_tape, Value.int (nI ln), Value.int s_thrown, Value.ref m_rule, Value.ref m_rules, Value.int (nI sn), Value.ref m_stair, Value.int s_readStairs, Value.int s_fault, Value.int s_faultPlace, Value.int (nI w), Value.int (nI h), Value.ref m_low, Value.ref m_high, Value.ref m_crack, Value.int (nI bc), Value.ref m_weight, Value.ref m_fire, Value.ref m_crowd, Value.ref m_state, Value.ref m_where, Value.int s_hours, Value.int s_fees, Value.int s_looks, Value.ref m_words, Value.int s_end, Value.int s_next, Value.int s_kind, Value.int s_which, Value.int s_place, Value.int s_read, Value.ref m_told, Value.ref m_breaks, Value.ref m_row, Value.ref m_tried, Value.ref m_steps, Value.ref m_paths])), (m_state, Sum.inl (y_state, 10, Sum.inl f_state)), (m_crowd, Sum.inl (y_crowd, 10, Sum.inl f_crowd)), (m_paths, Sum.inl (y_paths, 40, Sum.inl f_paths)), (m_stair, Sum.inl (y_stair, 24, Sum.inl f_stair))] H → va_D A [(h0, Sum.inr (9, [Value.ref m_tape, Value.int (nI ln), Value.int s_thrown, Value.ref m_rule, Value.ref m_rules, Value.int (nI sn), Value.ref m_stair, Value.int s_readStairs, Value.int s_fault, Value.int s_faultPlace, Value.int (nI w), Value.int (nI h), Value.ref m_low, Value.ref m_high, Value.ref m_crack, Value.int (nI bc), Value.ref m_weight, Value.ref m_fire, Value.ref m_crowd, Value.ref m_state, Value.ref m_where, Value.int s_hours, Value.int s_fees, Value.int s_looks, Value.ref m_words, Value.int s_end, Value.int s_next, Value.int s_kind, Value.int s_which, Value.int s_place, Value.int s_read, Value.ref m_told, Value.ref m_breaks, Value.ref m_row, Value.ref m_tried, Value.ref m_steps, Value.ref m_paths])), (m_state, Sum.inl (y_state, 10, Sum.inl f_state)), (m_crowd, Sum.inl (y_crowd, 10, Sum.inl f_crowd)), (m_paths, Sum.inl (y_paths, 40, Sum.inl f_paths)), (m_stair, Sum.inl (y_stair, 24, Sum.inl f_stair))] → va_S A s.heap H locs → ∀ ls : Array Slot, lv_has ls 7 [(0, Value.ref h0), (1, Value.int (nI g)), (2, Value.int (nI t9)), (3, Value.int (nI su))] → W p l e ({ frames := 0, cells := 0, slots := 0, locals := 0 }) s m args below meth c H locs 0 0 Q (F0 m 44 ls [])) :
    ∀ n : Nat, ∀ (su : Nat) (i : Nat), (i ≤ bc) → (bc ≤ 10) → (g < 1024) → (∀ b, b < bc → f_crowd b = nI (cw b) ∧ cw b ≤ 99) → (su = menN cw g i) → (bc - i) < n → ∀ (H : Heap) (locs : List Loc), va_P D vwCl [(h0, Sum.inr (9, [Value.ref m_tape, Value.int (nI ln), Value.int s_thrown, Value.ref m_rule, Value.ref m_rules, Value.int (nI sn), Value.ref m_stair, Value.int s_readStairs, Value.int s_fault, Value.int s_faultPlace, Value.int (nI w), Value.int (nI h), Value.ref m_low, Value.ref m_high, Value.ref m_crack, Value.int (nI bc), Value.ref m_weight, Value.ref m_fire, Value.ref m_crowd, Value.ref m_state, Value.ref m_where, Value.int s_hours, Value.int s_fees, Value.int s_looks, Value.ref m_words, Value.int s_end, Value.int s_next, Value.int s_kind, Value.int s_which, Value.int s_place, Value.int s_read, Value.ref m_told, Value.ref m_breaks, Value.ref m_row, Value.ref m_tried, Value.ref m_steps, Value.ref m_paths])), (m_state, Sum.inl (y_state, 10, Sum.inl f_state)), (m_crowd, Sum.inl (y_crowd, 10, Sum.inl f_crowd)), (m_paths, Sum.inl (y_paths, 40, Sum.inl f_paths)), (m_stair, Sum.inl (y_stair, 24, Sum.inl f_stair))] H → va_D A [(h0, Sum.inr (9, [Value.ref m_tape, Value.int (nI ln), Value.int s_thrown, Value.ref m_rule, Value.ref m_rules, Value.int (nI sn), Value.ref m_stair, Value.int s_readStairs, Value.int s_fault, Value.int s_faultPlace, Value.int (nI w), Value.int (nI h), Value.ref m_low, Value.ref m_high, Value.ref m_crack, Value.int (nI bc), Value.ref m_weight, Value.ref m_fire, Value.ref m_crowd, Value.ref m_state, Value.ref m_where, Value.int s_hours, Value.int s_fees, Value.int s_looks, Value.ref m_words, Value.int s_end, Value.int s_next, Value.int s_kind, Value.int s_which, Value.int s_place, Value.int s_read, Value.ref m_told, Value.ref m_breaks, Value.ref m_row, Value.ref m_tried, Value.ref m_steps, Value.ref m_paths])), (m_state, Sum.inl (y_state, 10, Sum.inl f_state)), (m_crowd, Sum.inl (y_crowd, 10, Sum.inl f_crowd)), (m_paths, Sum.inl (y_paths, 40, Sum.inl f_paths)), (m_stair, Sum.inl (y_stair, 24, Sum.inl f_stair))] → va_S A s.heap H locs → ∀ ls : Array Slot, lv_has ls 7 [(0, Value.ref h0), (1, Value.int (nI g)), (2, Value.int (nI t9)), (3, Value.int (nI su)), (4, Value.int (nI i))] → W p l e ({ frames := 0, cells := 0, slots := 0, locals := 0 }) s m args below meth c H locs 0 0 Q (F0 m 5 ls []) := by
  intro n
  induction n with
  | zero => intro su i hi hbc hg hCM hsu hn; exact absurd hn (Nat.not_lt_zero _)
  | succ n ih =>
    intro su i hi hbc hg hCM hsu hn H locs hP hD hS ls hl
    obtain ⟨hx, hb, hml, hown, hts⟩ := id F
    refine lv_iload hx hb dX10_over_5 (lv_at hl 4 rfl) ?_
    refine lv_aload_n hx hb dX10_over_7 rfl (lv_at hl 0 rfl) ?_
    refine va_get (D := D) (ci := 9) (v := Value.int (nI bc)) (C := RX10) (T := TX10) (N := 37) hx hb hts inG_X10 hown hK hP 0 rfl rfl 15 (by decide) (hts _ kw_4_210) (fun _ h9 => h9) rfl dX10_over_8 ?_
    refine lv_icmp_ge (tgt := 44) hx hb dX10_over_11 (by decide) (fun c_1 => ?_) (fun c_1 => ?_)
    · skip
      have c_1n : bc ≤ i := (nI_leI (by omega) (by omega)).mp c_1
      have c_1 := Int32.not_lt.mpr c_1
      exact kx_44 su ((show i = bc by omega) ▸ hsu) H locs (hP.sub [0, 1, 2, 3, 4] rfl) (hD.sub [0, 1, 2, 3, 4] (by decide) rfl) hS ls (lv_sub hl [0, 1, 2, 3] rfl)
    · skip
      have c_1n : i < bc := nb_le (by omega) (by omega) c_1
      have c_1 := Int32.not_le.mp c_1
      refine lv_iload_n hx hb dX10_over_14 rfl (lv_at hl 3 rfl) ?_
      refine lv_iload_n hx hb dX10_over_15 rfl (lv_at hl 1 rfl) ?_
      refine lv_iload hx hb dX10_over_16 (lv_at hl 4 rfl) ?_
      refine lv_ishr hx hb dX10_over_18 ?_
      refine lv_topi (fun z_2 ez_2 => ?_)
      refine lv_iconst (v := 1) hx hb dX10_over_19 (by decide) ?_
      refine lv_iand hx hb dX10_over_20 ?_
      refine lv_topi (fun z_3 ez_3 => ?_)
      refine lv_iconst (v := 1) hx hb dX10_over_21 (by decide) ?_
      refine lv_icmp_ne (tgt := 35) hx hb dX10_over_22 (by decide) (fun c_4 => ?_) (fun c_4 => ?_)
      · skip
        have hbt : ¬ g.testBit i = true := fun q => c_4 (by rw [ez_3, ez_2]; exact (sh_bit i (by omega) g (by omega)).mpr q)
        refine lv_iconst (v := 0) hx hb dX10_over_35 (by decide) ?_
        refine lv_iadd hx hb dX10_over_36 ?_
        refine lv_topi (fun z_5 ez_5 => ?_)
        obtain rfl : z_5 = nI (su + 0) := ez_5.trans (nI_add su 0)
        refine lv_istore_n (lv' := [(3, Value.int (nI (su + 0))), (0, Value.ref h0), (1, Value.int (nI g)), (2, Value.int (nI t9)), (4, Value.int (nI i))]) hx hb dX10_over_37 rfl hl (by decide) rfl (fun ls hl => ?_)
        refine lv_iinc (v := nI (i + 1)) (lv' := [(4, Value.int (nI (i + 1))), (3, Value.int (nI (su + 0))), (0, Value.ref h0), (1, Value.int (nI g)), (2, Value.int (nI t9))]) hx hb dX10_over_38 hl (k := 4) rfl (nI_add i 1) (by decide) rfl (fun ls hl => ?_)
        refine lv_goto (tgt := 5) hx hb dX10_over_41 (by decide) ?_
        exact ih (su + 0) (i + 1) (by omega) (by omega) (by omega) hCM (by rw [Nat.add_zero, hsu, menN_n hbt]) (by omega) H locs (hP.sub [0, 1, 2, 3, 4] rfl) (hD.sub [0, 1, 2, 3, 4] (by decide) rfl) hS ls (lv_sub hl [2, 3, 4, 1, 0] rfl)
      · skip
        have hbt : g.testBit i = true := (sh_bit i (by omega) g (by omega)).mp (by rw [← ez_2, ← ez_3]; exact c_4)
        refine lv_aload_n hx hb dX10_over_25 rfl (lv_at hl 0 rfl) ?_
        refine va_get (D := D) (ci := 9) (v := Value.ref m_crowd) (C := RX10) (T := TX10) (N := 37) hx hb hts inG_X10 hown hK hP 0 rfl rfl 18 (by decide) (hts _ kw_4_213) (fun _ h9 => h9) rfl dX10_over_26 ?_
        refine lv_iload hx hb dX10_over_29 (lv_at hl 4 rfl) ?_
        refine m_iald hx hb hK hP 2 1 rfl rfl i rfl (by omega) (by decide) dX10_over_31 ?_
        refine lv_topi (fun v_6 ev_6 => ?_)
        obtain rfl : v_6 = nI (cw i) := ev_6.trans (hCM i (by omega)).1
        refine lv_goto (tgt := 36) hx hb dX10_over_32 (by decide) ?_
        refine lv_iadd hx hb dX10_over_36 ?_
        refine lv_topi (fun z_7 ez_7 => ?_)
        obtain rfl : z_7 = nI (su + cw i) := ez_7.trans (nI_add su (cw i))
        refine lv_istore_n (lv' := [(3, Value.int (nI (su + cw i))), (0, Value.ref h0), (1, Value.int (nI g)), (2, Value.int (nI t9)), (4, Value.int (nI i))]) hx hb dX10_over_37 rfl hl (by decide) rfl (fun ls hl => ?_)
        refine lv_iinc (v := nI (i + 1)) (lv' := [(4, Value.int (nI (i + 1))), (3, Value.int (nI (su + cw i))), (0, Value.ref h0), (1, Value.int (nI g)), (2, Value.int (nI t9))]) hx hb dX10_over_38 hl (k := 4) rfl (nI_add i 1) (by decide) rfl (fun ls hl => ?_)
        refine lv_goto (tgt := 5) hx hb dX10_over_41 (by decide) ?_
        exact ih (su + cw i) (i + 1) (by omega) (by omega) (by omega) hCM (by rw [hsu, menN_y hbt]) (by omega) H locs (hP.sub [0, 1, 2, 3, 4] rfl) (hD.sub [0, 1, 2, 3, 4] (by decide) rfl) hS ls (lv_sub hl [2, 3, 4, 1, 0] rfl)
set_option maxHeartbeats 4000000 in
set_option maxRecDepth 100000 in
theorem lp_t_over2 {p : Program} {l : Launch} {e : Env} {s : State} {m : MethodId} {args : Array Value} {below : List Frame} {meth : Method} {c : Code} {Q : State → Prop} {A : Nat → Prop} {D : va_G} (F : mFix p s m args c cX10_over 7 RX10) (hA : ∀ q, s.heap.size ≤ q → A q) (h0 : Nat) (m_tape : Nat) (ln : Nat) (s_thrown : Int32) (m_rule : Nat) (m_rules : Nat) (sn : Nat) (m_stair : Nat) (s_readStairs : Int32) (s_fault : Int32) (s_faultPlace : Int32) (w : Nat) (h : Nat) (m_low : Nat) (m_high : Nat) (m_crack : Nat) (bc : Nat) (m_weight : Nat) (m_fire : Nat) (m_crowd : Nat) (m_state : Nat) (m_where : Nat) (s_hours : Int32) (s_fees : Int32) (s_looks : Int32) (m_words : Nat) (s_end : Int32) (s_next : Int32) (s_kind : Int32) (s_which : Int32) (s_place : Int32) (s_read : Int32) (m_told : Nat) (m_breaks : Nat) (m_row : Nat) (m_tried : Nat) (m_steps : Nat) (m_paths : Nat) (y_state : ClassId) (f_state : Nat → Int32) (y_crowd : ClassId) (f_crowd : Nat → Int32) (y_paths : ClassId) (f_paths : Nat → Int32) (y_stair : ClassId) (f_stair : Nat → Int32) (g : Nat) (t9 : Nat) (su : Int32) (si : Nat) (dd : Nat → Nat → Nat) (hK : va_K D vwCl [(y_state, .int), (y_crowd, .int), (y_paths, .int), (y_stair, .int)] s)
    (kx_120 : ∀ (fi : Nat), (fi ≤ 9999) → (fi = fsN dd g si bc) → ∀ (H : Heap) (locs : List Loc), va_P D vwCl [(h0, Sum.inr (9, [Value.ref m_tape, Value.int (nI ln), Value.int s_thrown, Value.ref m_rule, Value.ref m_rules, Value.int (nI sn), Value.ref m_stair, Value.int s_readStairs, Value.int s_fault, Value.int s_faultPlace, Value.int (nI w), Value.int (nI h), Value.ref m_low, Value.ref m_high, Value.ref m_crack, Value.int (nI bc), Value.ref m_weight, Value.ref m_fire, Value.ref m_crowd, Value.ref m_state, Value.ref m_where, Value.int s_hours, Value.int s_fees, Value.int s_looks, Value.ref m_words, Value.int s_end, Value.int s_next, Value.int s_kind, Value.int s_which, Value.int s_place, Value.int s_read, Value.ref m_told, Value.ref m_breaks, Value.ref m_row, Value.ref m_tried, Value.ref m_steps, Value.ref m_paths])), (m_state, Sum.inl (y_state, 10, Sum.inl f_state)), (m_crowd, Sum.inl (y_crowd, 10, Sum.inl f_crowd)), (m_paths, Sum.inl (y_paths, 40, Sum.inl f_paths)), (m_stair, Sum.inl (y_stair, 24, Sum.inl f_stair))] H → va_D A [(h0, Sum.inr (9, [Value.ref m_tape, Value.int (nI ln), Value.int s_thrown, Value.ref m_rule, Value.ref m_rules, Value.int (nI sn), Value.ref m_stair, Value.int s_readStairs, Value.int s_fault, Value.int s_faultPlace, Value.int (nI w), Value.int (nI h), Value.ref m_low, Value.ref m_high, Value.ref m_crack, Value.int (nI bc), Value.ref m_weight, Value.ref m_fire, Value.ref m_crowd, Value.ref m_state, Value.ref m_where, Value.int s_hours, Value.int s_fees, Value.int s_looks, Value.ref m_words, Value.int s_end, Value.int s_next, Value.int s_kind, Value.int s_which, Value.int s_place, Value.int s_read, Value.ref m_told, Value.ref m_breaks, Value.ref m_row, Value.ref m_tried, Value.ref m_steps, Value.ref m_paths])), (m_state, Sum.inl (y_state, 10, Sum.inl f_state)), (m_crowd, Sum.inl (y_crowd, 10, Sum.inl f_crowd)), (m_paths, Sum.inl (y_paths, 40, Sum.inl f_paths)), (m_stair, Sum.inl (y_stair, 24, Sum.inl f_stair))] → va_S A s.heap H locs → ∀ ls : Array Slot, lv_has ls 7 [(0, Value.ref h0), (1, Value.int (nI g)), (2, Value.int (nI t9)), (3, Value.int su), (4, Value.int (nI si)), (5, Value.int (nI fi))] → W p l e ({ frames := 0, cells := 0, slots := 0, locals := 0 }) s m args below meth c H locs 0 0 Q (F0 m 120 ls [])) :
    ∀ n : Nat, ∀ (fi : Nat) (i : Nat), (i ≤ bc) → (bc ≤ 10) → (si < 4) → (g < 1024) → (∀ b, b < bc → g.testBit b = true → f_state b = 1) → (∀ b s, b < bc → f_state b = 1 → s < sn → f_paths (4 * b + s) = nI (dd b s) ∧ okD (dd b s)) → (si < sn) → (fi ≤ 9999) → (fi = fsN dd g si i) → (bc - i) < n → ∀ (H : Heap) (locs : List Loc), va_P D vwCl [(h0, Sum.inr (9, [Value.ref m_tape, Value.int (nI ln), Value.int s_thrown, Value.ref m_rule, Value.ref m_rules, Value.int (nI sn), Value.ref m_stair, Value.int s_readStairs, Value.int s_fault, Value.int s_faultPlace, Value.int (nI w), Value.int (nI h), Value.ref m_low, Value.ref m_high, Value.ref m_crack, Value.int (nI bc), Value.ref m_weight, Value.ref m_fire, Value.ref m_crowd, Value.ref m_state, Value.ref m_where, Value.int s_hours, Value.int s_fees, Value.int s_looks, Value.ref m_words, Value.int s_end, Value.int s_next, Value.int s_kind, Value.int s_which, Value.int s_place, Value.int s_read, Value.ref m_told, Value.ref m_breaks, Value.ref m_row, Value.ref m_tried, Value.ref m_steps, Value.ref m_paths])), (m_state, Sum.inl (y_state, 10, Sum.inl f_state)), (m_crowd, Sum.inl (y_crowd, 10, Sum.inl f_crowd)), (m_paths, Sum.inl (y_paths, 40, Sum.inl f_paths)), (m_stair, Sum.inl (y_stair, 24, Sum.inl f_stair))] H → va_D A [(h0, Sum.inr (9, [Value.ref m_tape, Value.int (nI ln), Value.int s_thrown, Value.ref m_rule, Value.ref m_rules, Value.int (nI sn), Value.ref m_stair, Value.int s_readStairs, Value.int s_fault, Value.int s_faultPlace, Value.int (nI w), Value.int (nI h), Value.ref m_low, Value.ref m_high, Value.ref m_crack, Value.int (nI bc), Value.ref m_weight, Value.ref m_fire, Value.ref m_crowd, Value.ref m_state, Value.ref m_where, Value.int s_hours, Value.int s_fees, Value.int s_looks, Value.ref m_words, Value.int s_end, Value.int s_next, Value.int s_kind, Value.int s_which, Value.int s_place, Value.int s_read, Value.ref m_told, Value.ref m_breaks, Value.ref m_row, Value.ref m_tried, Value.ref m_steps, Value.ref m_paths])), (m_state, Sum.inl (y_state, 10, Sum.inl f_state)), (m_crowd, Sum.inl (y_crowd, 10, Sum.inl f_crowd)), (m_paths, Sum.inl (y_paths, 40, Sum.inl f_paths)), (m_stair, Sum.inl (y_stair, 24, Sum.inl f_stair))] → va_S A s.heap H locs → ∀ ls : Array Slot, lv_has ls 7 [(0, Value.ref h0), (1, Value.int (nI g)), (2, Value.int (nI t9)), (3, Value.int su), (4, Value.int (nI si)), (5, Value.int (nI fi)), (6, Value.int (nI i))] → W p l e ({ frames := 0, cells := 0, slots := 0, locals := 0 }) s m args below meth c H locs 0 0 Q (F0 m 64 ls []) := by
  intro n
  induction n with
  | zero => intro fi i hi hbc hsi hg hOS hPD hsx hfl hfi hn; exact absurd hn (Nat.not_lt_zero _)
  | succ n ih =>
    intro fi i hi hbc hsi hg hOS hPD hsx hfl hfi hn H locs hP hD hS ls hl
    obtain ⟨hx, hb, hml, hown, hts⟩ := id F
    refine lv_iload hx hb dX10_over_64 (lv_at hl 6 rfl) ?_
    refine lv_aload_n hx hb dX10_over_66 rfl (lv_at hl 0 rfl) ?_
    refine va_get (D := D) (ci := 9) (v := Value.int (nI bc)) (C := RX10) (T := TX10) (N := 37) hx hb hts inG_X10 hown hK hP 0 rfl rfl 15 (by decide) (hts _ kw_4_210) (fun _ h9 => h9) rfl dX10_over_67 ?_
    refine lv_icmp_ge (tgt := 120) hx hb dX10_over_70 (by decide) (fun c_1 => ?_) (fun c_1 => ?_)
    · skip
      have c_1n : bc ≤ i := (nI_leI (by omega) (by omega)).mp c_1
      have c_1 := Int32.not_lt.mpr c_1
      exact kx_120 fi (by omega) ((show i = bc by omega) ▸ hfi) H locs (hP.sub [0, 1, 2, 3, 4] rfl) (hD.sub [0, 1, 2, 3, 4] (by decide) rfl) hS ls (lv_sub hl [0, 1, 2, 3, 4, 5] rfl)
    · skip
      have c_1n : i < bc := nb_le (by omega) (by omega) c_1
      have c_1 := Int32.not_le.mp c_1
      refine lv_iload_n hx hb dX10_over_73 rfl (lv_at hl 1 rfl) ?_
      refine lv_iload hx hb dX10_over_74 (lv_at hl 6 rfl) ?_
      refine lv_ishr hx hb dX10_over_76 ?_
      refine lv_topi (fun z_2 ez_2 => ?_)
      refine lv_iconst (v := 1) hx hb dX10_over_77 (by decide) ?_
      refine lv_iand hx hb dX10_over_78 ?_
      refine lv_topi (fun z_3 ez_3 => ?_)
      refine lv_iconst (v := 1) hx hb dX10_over_79 (by decide) ?_
      refine lv_icmp_ne (tgt := 114) hx hb dX10_over_80 (by decide) (fun c_4 => ?_) (fun c_4 => ?_)
      · skip
        have hbt : ¬ g.testBit i = true := fun q => c_4 (by rw [ez_3, ez_2]; exact (sh_bit i (by omega) g (by omega)).mpr q)
        refine lv_iinc (v := nI (i + 1)) (lv' := [(6, Value.int (nI (i + 1))), (0, Value.ref h0), (1, Value.int (nI g)), (2, Value.int (nI t9)), (3, Value.int su), (4, Value.int (nI si)), (5, Value.int (nI fi))]) hx hb dX10_over_114 hl (k := 6) rfl (nI_add i 1) (by decide) rfl (fun ls hl => ?_)
        refine lv_goto (tgt := 64) hx hb dX10_over_117 (by decide) ?_
        exact ih fi (i + 1) (by omega) (by omega) (by omega) (by omega) hOS hPD (by omega) (by omega) (hfi.trans (by rw [fsN_n hbt])) (by omega) H locs (hP.sub [0, 1, 2, 3, 4] rfl) (hD.sub [0, 1, 2, 3, 4] (by decide) rfl) hS ls (lv_sub hl [1, 2, 3, 4, 5, 6, 0] rfl)
      · skip
        have hbt : g.testBit i = true := (sh_bit i (by omega) g (by omega)).mp (by rw [← ez_2, ← ez_3]; exact c_4)
        refine lv_aload_n hx hb dX10_over_83 rfl (lv_at hl 0 rfl) ?_
        refine va_get (D := D) (ci := 9) (v := Value.ref m_paths) (C := RX10) (T := TX10) (N := 37) hx hb hts inG_X10 hown hK hP 0 rfl rfl 36 (by decide) (hts _ kw_4_231) (fun _ h9 => h9) rfl dX10_over_84 ?_
        refine lv_iconst (v := 4) hx hb dX10_over_87 (by decide) ?_
        refine lv_iload hx hb dX10_over_88 (lv_at hl 6 rfl) ?_
        refine lv_imul hx hb dX10_over_90 ?_
        refine lv_topi (fun z_5 ez_5 => ?_)
        obtain rfl : z_5 = nI (4 * i) := ez_5.trans (pk_mul 4 i)
        refine lv_iload hx hb dX10_over_91 (lv_at hl 4 rfl) ?_
        refine lv_iadd hx hb dX10_over_93 ?_
        refine lv_topi (fun z_6 ez_6 => ?_)
        obtain rfl : z_6 = nI (4 * i + si) := ez_6.trans (nI_add (4 * i) si)
        refine m_iald hx hb hK hP 3 2 rfl rfl (4 * i + si) rfl (by omega) (by decide) dX10_over_94 ?_
        refine lv_topi (fun v_7 ev_7 => ?_)
        obtain rfl : v_7 = nI (dd i si) := ev_7.trans (hPD i si (by omega) (hOS i (by omega) hbt) (by omega)).1
        have hdl : dd i si ≤ 9999 := by rcases (hPD i si (by omega) (hOS i (by omega) hbt) (by omega)).2 with q | q <;> omega
        refine lv_iload hx hb dX10_over_95 (lv_at hl 5 rfl) ?_
        refine lv_icmp_ge (tgt := 114) hx hb dX10_over_97 (by decide) (fun c_8 => ?_) (fun c_8 => ?_)
        · skip
          have c_8n : fi ≤ (dd i si) := (nI_leI (by omega) (by omega)).mp c_8
          have c_8 := Int32.not_lt.mpr c_8
          refine lv_iinc (v := nI (i + 1)) (lv' := [(6, Value.int (nI (i + 1))), (0, Value.ref h0), (1, Value.int (nI g)), (2, Value.int (nI t9)), (3, Value.int su), (4, Value.int (nI si)), (5, Value.int (nI fi))]) hx hb dX10_over_114 hl (k := 6) rfl (nI_add i 1) (by decide) rfl (fun ls hl => ?_)
          refine lv_goto (tgt := 64) hx hb dX10_over_117 (by decide) ?_
          exact ih fi (i + 1) (by omega) (by omega) (by omega) (by omega) hOS hPD (by omega) (by omega) (by rw [fsN_y hbt, ← hfi]; omega) (by omega) H locs (hP.sub [0, 1, 2, 3, 4] rfl) (hD.sub [0, 1, 2, 3, 4] (by decide) rfl) hS ls (lv_sub hl [1, 2, 3, 4, 5, 6, 0] rfl)
        · skip
          have c_8n : (dd i si) < fi := nb_le (by omega) (by omega) c_8
          have c_8 := Int32.not_le.mp c_8
          refine lv_aload_n hx hb dX10_over_100 rfl (lv_at hl 0 rfl) ?_
          refine va_get (D := D) (ci := 9) (v := Value.ref m_paths) (C := RX10) (T := TX10) (N := 37) hx hb hts inG_X10 hown hK hP 0 rfl rfl 36 (by decide) (hts _ kw_4_231) (fun _ h9 => h9) rfl dX10_over_101 ?_
          refine lv_iconst (v := 4) hx hb dX10_over_104 (by decide) ?_
          refine lv_iload hx hb dX10_over_105 (lv_at hl 6 rfl) ?_
          refine lv_imul hx hb dX10_over_107 ?_
          refine lv_topi (fun z_9 ez_9 => ?_)
          obtain rfl : z_9 = nI (4 * i) := ez_9.trans (pk_mul 4 i)
          refine lv_iload hx hb dX10_over_108 (lv_at hl 4 rfl) ?_
          refine lv_iadd hx hb dX10_over_110 ?_
          refine lv_topi (fun z_10 ez_10 => ?_)
          obtain rfl : z_10 = nI (4 * i + si) := ez_10.trans (nI_add (4 * i) si)
          refine m_iald hx hb hK hP 3 2 rfl rfl (4 * i + si) rfl (by omega) (by decide) dX10_over_111 ?_
          refine lv_topi (fun v_11 ev_11 => ?_)
          obtain rfl : v_11 = nI (dd i si) := ev_11.trans (hPD i si (by omega) (hOS i (by omega) hbt) (by omega)).1
          have hdl : dd i si ≤ 9999 := by rcases (hPD i si (by omega) (hOS i (by omega) hbt) (by omega)).2 with q | q <;> omega
          refine lv_istore (lv' := [(5, Value.int (nI (dd i si))), (0, Value.ref h0), (1, Value.int (nI g)), (2, Value.int (nI t9)), (3, Value.int su), (4, Value.int (nI si)), (6, Value.int (nI i))]) hx hb dX10_over_112 hl (by decide) rfl (fun ls hl => ?_)
          refine lv_iinc (v := nI (i + 1)) (lv' := [(6, Value.int (nI (i + 1))), (5, Value.int (nI (dd i si))), (0, Value.ref h0), (1, Value.int (nI g)), (2, Value.int (nI t9)), (3, Value.int su), (4, Value.int (nI si))]) hx hb dX10_over_114 hl (k := 6) rfl (nI_add i 1) (by decide) rfl (fun ls hl => ?_)
          refine lv_goto (tgt := 64) hx hb dX10_over_117 (by decide) ?_
          exact ih (dd i si) (i + 1) (by omega) (by omega) (by omega) (by omega) hOS hPD (by omega) (by omega) (by rw [fsN_y hbt, ← hfi]; omega) (by omega) H locs (hP.sub [0, 1, 2, 3, 4] rfl) (hD.sub [0, 1, 2, 3, 4] (by decide) rfl) hS ls (lv_sub hl [2, 3, 4, 5, 6, 1, 0] rfl)
set_option maxHeartbeats 4000000 in
set_option maxRecDepth 100000 in
theorem lp_t_over3 {p : Program} {l : Launch} {e : Env} {s : State} {m : MethodId} {args : Array Value} {below : List Frame} {meth : Method} {c : Code} {Q : State → Prop} {A : Nat → Prop} {D : va_G} (F : mFix p s m args c cX10_over 7 RX10) (hA : ∀ q, s.heap.size ≤ q → A q) (h0 : Nat) (m_tape : Nat) (ln : Nat) (s_thrown : Int32) (m_rule : Nat) (m_rules : Nat) (sn : Nat) (m_stair : Nat) (s_readStairs : Int32) (s_fault : Int32) (s_faultPlace : Int32) (w : Nat) (h : Nat) (m_low : Nat) (m_high : Nat) (m_crack : Nat) (bc : Nat) (m_weight : Nat) (m_fire : Nat) (m_crowd : Nat) (m_state : Nat) (m_where : Nat) (s_hours : Int32) (s_fees : Int32) (s_looks : Int32) (m_words : Nat) (s_end : Int32) (s_next : Int32) (s_kind : Int32) (s_which : Int32) (s_place : Int32) (s_read : Int32) (m_told : Nat) (m_breaks : Nat) (m_row : Nat) (m_tried : Nat) (m_steps : Nat) (m_paths : Nat) (y_state : ClassId) (f_state : Nat → Int32) (y_crowd : ClassId) (f_crowd : Nat → Int32) (y_paths : ClassId) (f_paths : Nat → Int32) (y_stair : ClassId) (f_stair : Nat → Int32) (g : Nat) (t9 : Nat) (cw : Nat → Nat) (mn : Nat → Nat) (dd : Nat → Nat → Nat) (hK : va_K D vwCl [(y_state, .int), (y_crowd, .int), (y_paths, .int), (y_stair, .int)] s)
    (kx_151 : ∀ (su : Int32), (su.toInt = ((menN cw g bc : Nat) : Int) - ((letN mn (fun s => fsN dd g s bc) t9 sn : Nat) : Int)) → ∀ (H : Heap) (locs : List Loc), va_P D vwCl [(h0, Sum.inr (9, [Value.ref m_tape, Value.int (nI ln), Value.int s_thrown, Value.ref m_rule, Value.ref m_rules, Value.int (nI sn), Value.ref m_stair, Value.int s_readStairs, Value.int s_fault, Value.int s_faultPlace, Value.int (nI w), Value.int (nI h), Value.ref m_low, Value.ref m_high, Value.ref m_crack, Value.int (nI bc), Value.ref m_weight, Value.ref m_fire, Value.ref m_crowd, Value.ref m_state, Value.ref m_where, Value.int s_hours, Value.int s_fees, Value.int s_looks, Value.ref m_words, Value.int s_end, Value.int s_next, Value.int s_kind, Value.int s_which, Value.int s_place, Value.int s_read, Value.ref m_told, Value.ref m_breaks, Value.ref m_row, Value.ref m_tried, Value.ref m_steps, Value.ref m_paths])), (m_state, Sum.inl (y_state, 10, Sum.inl f_state)), (m_crowd, Sum.inl (y_crowd, 10, Sum.inl f_crowd)), (m_paths, Sum.inl (y_paths, 40, Sum.inl f_paths)), (m_stair, Sum.inl (y_stair, 24, Sum.inl f_stair))] H → va_D A [(h0, Sum.inr (9, [Value.ref m_tape, Value.int (nI ln), Value.int s_thrown, Value.ref m_rule, Value.ref m_rules, Value.int (nI sn), Value.ref m_stair, Value.int s_readStairs, Value.int s_fault, Value.int s_faultPlace, Value.int (nI w), Value.int (nI h), Value.ref m_low, Value.ref m_high, Value.ref m_crack, Value.int (nI bc), Value.ref m_weight, Value.ref m_fire, Value.ref m_crowd, Value.ref m_state, Value.ref m_where, Value.int s_hours, Value.int s_fees, Value.int s_looks, Value.ref m_words, Value.int s_end, Value.int s_next, Value.int s_kind, Value.int s_which, Value.int s_place, Value.int s_read, Value.ref m_told, Value.ref m_breaks, Value.ref m_row, Value.ref m_tried, Value.ref m_steps, Value.ref m_paths])), (m_state, Sum.inl (y_state, 10, Sum.inl f_state)), (m_crowd, Sum.inl (y_crowd, 10, Sum.inl f_crowd)), (m_paths, Sum.inl (y_paths, 40, Sum.inl f_paths)), (m_stair, Sum.inl (y_stair, 24, Sum.inl f_stair))] → va_S A s.heap H locs → ∀ ls : Array Slot, lv_has ls 7 [(3, Value.int su)] → W p l e ({ frames := 0, cells := 0, slots := 0, locals := 0 }) s m args below meth c H locs 0 0 Q (F0 m 151 ls [])) :
    ∀ n : Nat, ∀ (su : Int32) (si : Nat), (si ≤ sn) → (sn ≤ 4) → (bc ≤ 10) → (g < 1024) → (t9 ≤ 1200) → (∀ b, b < bc → g.testBit b = true → f_state b = 1) → (∀ b s, b < bc → f_state b = 1 → s < sn → f_paths (4 * b + s) = nI (dd b s) ∧ okD (dd b s)) → (∀ b, b < bc → f_crowd b = nI (cw b) ∧ cw b ≤ 99) → (∀ s, s < sn → f_stair (2 * s + 1) = nI (mn s) ∧ mn s ≤ 9) → (su.toInt = ((menN cw g bc : Nat) : Int) - ((letN mn (fun s => fsN dd g s bc) t9 si : Nat) : Int)) → (sn - si) < n → ∀ (H : Heap) (locs : List Loc), va_P D vwCl [(h0, Sum.inr (9, [Value.ref m_tape, Value.int (nI ln), Value.int s_thrown, Value.ref m_rule, Value.ref m_rules, Value.int (nI sn), Value.ref m_stair, Value.int s_readStairs, Value.int s_fault, Value.int s_faultPlace, Value.int (nI w), Value.int (nI h), Value.ref m_low, Value.ref m_high, Value.ref m_crack, Value.int (nI bc), Value.ref m_weight, Value.ref m_fire, Value.ref m_crowd, Value.ref m_state, Value.ref m_where, Value.int s_hours, Value.int s_fees, Value.int s_looks, Value.ref m_words, Value.int s_end, Value.int s_next, Value.int s_kind, Value.int s_which, Value.int s_place, Value.int s_read, Value.ref m_told, Value.ref m_breaks, Value.ref m_row, Value.ref m_tried, Value.ref m_steps, Value.ref m_paths])), (m_state, Sum.inl (y_state, 10, Sum.inl f_state)), (m_crowd, Sum.inl (y_crowd, 10, Sum.inl f_crowd)), (m_paths, Sum.inl (y_paths, 40, Sum.inl f_paths)), (m_stair, Sum.inl (y_stair, 24, Sum.inl f_stair))] H → va_D A [(h0, Sum.inr (9, [Value.ref m_tape, Value.int (nI ln), Value.int s_thrown, Value.ref m_rule, Value.ref m_rules, Value.int (nI sn), Value.ref m_stair, Value.int s_readStairs, Value.int s_fault, Value.int s_faultPlace, Value.int (nI w), Value.int (nI h), Value.ref m_low, Value.ref m_high, Value.ref m_crack, Value.int (nI bc), Value.ref m_weight, Value.ref m_fire, Value.ref m_crowd, Value.ref m_state, Value.ref m_where, Value.int s_hours, Value.int s_fees, Value.int s_looks, Value.ref m_words, Value.int s_end, Value.int s_next, Value.int s_kind, Value.int s_which, Value.int s_place, Value.int s_read, Value.ref m_told, Value.ref m_breaks, Value.ref m_row, Value.ref m_tried, Value.ref m_steps, Value.ref m_paths])), (m_state, Sum.inl (y_state, 10, Sum.inl f_state)), (m_crowd, Sum.inl (y_crowd, 10, Sum.inl f_crowd)), (m_paths, Sum.inl (y_paths, 40, Sum.inl f_paths)), (m_stair, Sum.inl (y_stair, 24, Sum.inl f_stair))] → va_S A s.heap H locs → ∀ ls : Array Slot, lv_has ls 7 [(0, Value.ref h0), (1, Value.int (nI g)), (2, Value.int (nI t9)), (3, Value.int su), (4, Value.int (nI si))] → W p l e ({ frames := 0, cells := 0, slots := 0, locals := 0 }) s m args below meth c H locs 0 0 Q (F0 m 47 ls []) := by
  intro n
  induction n with
  | zero => intro su si hss hsn hbc hg ht9 hOS hPD hCM hMM hsz hn; exact absurd hn (Nat.not_lt_zero _)
  | succ n ih =>
    intro su si hss hsn hbc hg ht9 hOS hPD hCM hMM hsz hn H locs hP hD hS ls hl
    obtain ⟨hx, hb, hml, hown, hts⟩ := id F
    refine lv_iload hx hb dX10_over_47 (lv_at hl 4 rfl) ?_
    refine lv_aload_n hx hb dX10_over_49 rfl (lv_at hl 0 rfl) ?_
    refine va_get (D := D) (ci := 9) (v := Value.int (nI sn)) (C := RX10) (T := TX10) (N := 37) hx hb hts inG_X10 hown hK hP 0 rfl rfl 5 (by decide) (hts _ kw_4_200) (fun _ h9 => h9) rfl dX10_over_50 ?_
    refine lv_icmp_ge (tgt := 151) hx hb dX10_over_53 (by decide) (fun c_1 => ?_) (fun c_1 => ?_)
    · skip
      have c_1n : sn ≤ si := (nI_leI (by omega) (by omega)).mp c_1
      have c_1 := Int32.not_lt.mpr c_1
      exact kx_151 su ((show si = sn by omega) ▸ hsz) H locs (hP.sub [0, 1, 2, 3, 4] rfl) (hD.sub [0, 1, 2, 3, 4] (by decide) rfl) hS ls (lv_sub hl [3] rfl)
    · skip
      have c_1n : si < sn := nb_le (by omega) (by omega) c_1
      have c_1 := Int32.not_le.mp c_1
      refine lv_sipush (v := 9999) hx hb dX10_over_56 (by decide) ?_
      refine lv_istore (lv' := [(5, Value.int 9999), (0, Value.ref h0), (1, Value.int (nI g)), (2, Value.int (nI t9)), (3, Value.int su), (4, Value.int (nI si))]) hx hb dX10_over_59 hl (by decide) rfl (fun ls hl => ?_)
      refine lv_iconst (v := 0) hx hb dX10_over_61 (by decide) ?_
      refine lv_istore (lv' := [(6, Value.int 0), (5, Value.int 9999), (0, Value.ref h0), (1, Value.int (nI g)), (2, Value.int (nI t9)), (3, Value.int su), (4, Value.int (nI si))]) hx hb dX10_over_62 hl (by decide) rfl (fun ls hl => ?_)
      refine lp_t_over2 F hA h0 m_tape ln s_thrown m_rule m_rules sn m_stair s_readStairs s_fault s_faultPlace w h m_low m_high m_crack bc m_weight m_fire m_crowd m_state m_where s_hours s_fees s_looks m_words s_end s_next s_kind s_which s_place s_read m_told m_breaks m_row m_tried m_steps m_paths y_state f_state y_crowd f_crowd y_paths f_paths y_stair f_stair g t9 su si dd (hK.sub [0, 1, 2, 3] rfl) (fun fi_2 h_3 h_4 H locs hP hD hS ls hl => ?_) _ 9999 0 (by omega) (by omega) (by omega) (by omega) hOS hPD (by omega) (by decide) rfl (Nat.lt_succ_self _) _ _ (hP.sub [0, 1, 2, 3, 4] rfl) (hD.sub [0, 1, 2, 3, 4] (by decide) rfl) hS ls (lv_sub hl [2, 3, 4, 5, 6, 1, 0] rfl)
      have h_3 : fi_2 ≤ 9999 := h_3
      have h_4 : fi_2 = fsN dd g si bc := h_4
      have hfl := h_3
      have hfi := h_4
      refine lv_iload_n hx hb dX10_over_120 rfl (lv_at hl 2 rfl) ?_
      refine lv_iload hx hb dX10_over_121 (lv_at hl 5 rfl) ?_
      refine lv_icmp_le (tgt := 145) hx hb dX10_over_123 (by decide) (fun c_5 => ?_) (fun c_5 => ?_)
      · skip
        have c_5n : t9 ≤ fi_2 := (nI_leI (by omega) (by omega)).mp c_5
        have c_5 := Int32.not_lt.mpr c_5
        refine lv_iinc (v := nI (si + 1)) (lv' := [(4, Value.int (nI (si + 1))), (0, Value.ref h0), (1, Value.int (nI g)), (2, Value.int (nI t9)), (3, Value.int su), (5, Value.int (nI fi_2))]) hx hb dX10_over_145 hl (k := 4) rfl (nI_add si 1) (by decide) rfl (fun ls hl => ?_)
        refine lv_goto (tgt := 47) hx hb dX10_over_148 (by decide) ?_
        exact ih su (si + 1) (by omega) (by omega) (by omega) (by omega) (by omega) hOS hPD hCM hMM (by rw [← let_n (mn := mn) (fs := fun s => fsN dd g s bc) (show t9 ≤ fsN dd g si bc by rw [← hfi]; exact c_5n)]; exact hsz) (by omega) H locs (hP.sub [0, 1, 2, 3, 4] rfl) (hD.sub [0, 1, 2, 3, 4] (by decide) rfl) hS ls (lv_sub hl [1, 2, 3, 4, 0] rfl)
      · skip
        have c_5n : fi_2 < t9 := nb_le (by omega) (by omega) c_5
        have c_5 := Int32.not_le.mp c_5
        refine lv_iload_n hx hb dX10_over_126 rfl (lv_at hl 3 rfl) ?_
        refine lv_iload_n hx hb dX10_over_127 rfl (lv_at hl 2 rfl) ?_
        refine lv_iload hx hb dX10_over_128 (lv_at hl 5 rfl) ?_
        refine lv_isub hx hb dX10_over_130 ?_
        refine lv_topi (fun z_6 ez_6 => ?_)
        obtain rfl : z_6 = nI (t9 - fi_2) := ez_6.trans (nI_subN (by omega))
        refine lv_aload_n hx hb dX10_over_131 rfl (lv_at hl 0 rfl) ?_
        refine va_get (D := D) (ci := 9) (v := Value.ref m_stair) (C := RX10) (T := TX10) (N := 37) hx hb hts inG_X10 hown hK hP 0 rfl rfl 6 (by decide) (hts _ kw_4_201) (fun _ h9 => h9) rfl dX10_over_132 ?_
        refine lv_iconst (v := 2) hx hb dX10_over_135 (by decide) ?_
        refine lv_iload hx hb dX10_over_136 (lv_at hl 4 rfl) ?_
        refine lv_imul hx hb dX10_over_138 ?_
        refine lv_topi (fun z_7 ez_7 => ?_)
        obtain rfl : z_7 = nI (2 * si) := ez_7.trans (pk_mul 2 si)
        refine lv_iconst (v := 1) hx hb dX10_over_139 (by decide) ?_
        refine lv_iadd hx hb dX10_over_140 ?_
        refine lv_topi (fun z_8 ez_8 => ?_)
        obtain rfl : z_8 = nI (2 * si + 1) := ez_8.trans (nI_add (2 * si) 1)
        refine m_iald hx hb hK hP 4 3 rfl rfl (2 * si + 1) rfl (by omega) (by decide) dX10_over_141 ?_
        refine lv_topi (fun v_9 ev_9 => ?_)
        obtain rfl : v_9 = nI (mn si) := ev_9.trans (hMM si (by omega)).1
        refine lv_imul hx hb dX10_over_142 ?_
        refine lv_topi (fun z_10 ez_10 => ?_)
        obtain ⟨pq, hpq⟩ : ∃ q : Nat, q = (t9 - fi_2) * (mn si) := ⟨_, rfl⟩
        have hpb : pq ≤ 1200 * 9 := by rw [hpq]; exact Nat.mul_le_mul (by omega) (hMM si (by omega)).2
        have hlb := letN_le (mn := mn) (fs := fun s => fsN dd g s bc) (t := t9) (by omega) si (fun s hs => (hMM s (by omega)).2)
        have hmb := menN_le (cw := cw) (g := g) bc (fun b hb => (hCM b hb).2)
        obtain rfl : z_10 = nI pq := ez_10.trans (by rw [hpq]; exact pk_mul _ _)
        refine lv_isub hx hb dX10_over_143 ?_
        refine lv_topi (fun z_11 ez_11 => ?_)
        have hZz_11 : z_11.toInt = su.toInt - ((pq : Nat) : Int) := by rw [ez_11]; exact z_sub rfl (nI_toInt (by omega)) (by omega) (by omega)
        refine lv_istore_n (lv' := [(3, Value.int z_11), (0, Value.ref h0), (1, Value.int (nI g)), (2, Value.int (nI t9)), (4, Value.int (nI si)), (5, Value.int (nI fi_2))]) hx hb dX10_over_144 rfl hl (by decide) rfl (fun ls hl => ?_)
        refine lv_iinc (v := nI (si + 1)) (lv' := [(4, Value.int (nI (si + 1))), (3, Value.int z_11), (0, Value.ref h0), (1, Value.int (nI g)), (2, Value.int (nI t9)), (5, Value.int (nI fi_2))]) hx hb dX10_over_145 hl (k := 4) rfl (nI_add si 1) (by decide) rfl (fun ls hl => ?_)
        refine lv_goto (tgt := 47) hx hb dX10_over_148 (by decide) ?_
        exact ih z_11 (si + 1) (by omega) (by omega) (by omega) (by omega) (by omega) hOS hPD hCM hMM (by rw [show letN mn (fun s => fsN dd g s bc) t9 (si + 1) = letN mn (fun s => fsN dd g s bc) t9 si + pq from by rw [hpq, hfi, Nat.mul_comm]; rfl]; omega) (by omega) H locs (hP.sub [0, 1, 2, 3, 4] rfl) (hD.sub [0, 1, 2, 3, 4] (by decide) rfl) hS ls (lv_sub hl [2, 3, 4, 1, 0] rfl)
set_option maxHeartbeats 4000000 in
set_option maxRecDepth 100000 in
theorem t_over (l : Launch) (D : va_G) (cw : Nat → Nat) (mn : Nat → Nat) (dd : Nat → Nat → Nat) (h0 : Nat) (m_tape : Nat) (ln : Nat) (s_thrown : Int32) (m_rule : Nat) (m_rules : Nat) (sn : Nat) (m_stair : Nat) (s_readStairs : Int32) (s_fault : Int32) (s_faultPlace : Int32) (w : Nat) (h : Nat) (m_low : Nat) (m_high : Nat) (m_crack : Nat) (bc : Nat) (m_weight : Nat) (m_fire : Nat) (m_crowd : Nat) (m_state : Nat) (m_where : Nat) (s_hours : Int32) (s_fees : Int32) (s_looks : Int32) (m_words : Nat) (s_end : Int32) (s_next : Int32) (s_kind : Int32) (s_which : Int32) (s_place : Int32) (s_read : Int32) (m_told : Nat) (m_breaks : Nat) (m_row : Nat) (m_tried : Nat) (m_steps : Nat) (m_paths : Nat) (y_state : ClassId) (f_state : Nat → Int32) (y_crowd : ClassId) (f_crowd : Nat → Int32) (y_paths : ClassId) (f_paths : Nat → Int32) (y_stair : ClassId) (f_stair : Nat → Int32) (g : Nat) (t9 : Nat) (hbc : bc ≤ 10) (hsn : sn ≤ 4) (hg : g < 1024) (ht9 : t9 ≤ 1200) (hOS : ∀ b, b < bc → g.testBit b = true → f_state b = 1) (hPD : ∀ b s, b < bc → f_state b = 1 → s < sn → f_paths (4 * b + s) = nI (dd b s) ∧ okD (dd b s)) (hCM : ∀ b, b < bc → f_crowd b = nI (cw b) ∧ cw b ≤ 99) (hMM : ∀ s, s < sn → f_stair (2 * s + 1) = nI (mn s) ∧ mn s ≤ 9) : cI l yX10_over (.code yX10_over cX10_over 7 (some .int)) ({ frames := 0, cells := 0, slots := 0, locals := 0 }) D [(y_state, .int), (y_crowd, .int), (y_paths, .int), (y_stair, .int)] [(h0, Sum.inr (9, [Value.ref m_tape, Value.int (nI ln), Value.int s_thrown, Value.ref m_rule, Value.ref m_rules, Value.int (nI sn), Value.ref m_stair, Value.int s_readStairs, Value.int s_fault, Value.int s_faultPlace, Value.int (nI w), Value.int (nI h), Value.ref m_low, Value.ref m_high, Value.ref m_crack, Value.int (nI bc), Value.ref m_weight, Value.ref m_fire, Value.ref m_crowd, Value.ref m_state, Value.ref m_where, Value.int s_hours, Value.int s_fees, Value.int s_looks, Value.ref m_words, Value.int s_end, Value.int s_next, Value.int s_kind, Value.int s_which, Value.int s_place, Value.int s_read, Value.ref m_told, Value.ref m_breaks, Value.ref m_row, Value.ref m_tried, Value.ref m_steps, Value.ref m_paths])), (m_state, Sum.inl (y_state, 10, Sum.inl f_state)), (m_crowd, Sum.inl (y_crowd, 10, Sum.inl f_crowd)), (m_paths, Sum.inl (y_paths, 40, Sum.inl f_paths)), (m_stair, Sum.inl (y_stair, 24, Sum.inl f_stair))] xT [Value.ref h0, Value.int (nI g), Value.int (nI t9)] (S := Unit) (fun r _ => r.toInt = ((menN cw g bc : Nat) : Int) - ((letG bc sn mn dd g t9 : Nat) : Int)) (fun _ => []) (fun _ => [(h0, Sum.inr (9, [Value.ref m_tape, Value.int (nI ln), Value.int s_thrown, Value.ref m_rule, Value.ref m_rules, Value.int (nI sn), Value.ref m_stair, Value.int s_readStairs, Value.int s_fault, Value.int s_faultPlace, Value.int (nI w), Value.int (nI h), Value.ref m_low, Value.ref m_high, Value.ref m_crack, Value.int (nI bc), Value.ref m_weight, Value.ref m_fire, Value.ref m_crowd, Value.ref m_state, Value.ref m_where, Value.int s_hours, Value.int s_fees, Value.int s_looks, Value.ref m_words, Value.int s_end, Value.int s_next, Value.int s_kind, Value.int s_which, Value.int s_place, Value.int s_read, Value.ref m_told, Value.ref m_breaks, Value.ref m_row, Value.ref m_tried, Value.ref m_steps, Value.ref m_paths])), (m_state, Sum.inl (y_state, 10, Sum.inl f_state)), (m_crowd, Sum.inl (y_crowd, 10, Sum.inl f_crowd)), (m_paths, Sum.inl (y_paths, 40, Sum.inl f_paths)), (m_stair, Sum.inl (y_stair, 24, Sum.inl f_stair))]) := by
  intro sz
  refine Met.ofW (cc := cX10_over) (maxL := 7) (ret := (some .int)) (by decide) rfl ?_
  intro p e s m args below meth c s₁ B hml hv
  obtain ⟨rfl, hsz, hP, hK, hD0, hX⟩ := hv
  have hx := B.exec
  have hb := B.bytes
  have hr := B.returns
  have hts0 := atoms_spec (ws := .code yX10_over cX10_over 7 (some .int) :: gw) B.pre
  have hts := fun (w : Cond) (h : w ∈ gw) => hts0 w (List.mem_cons_of_mem _ h)
  have hown : s.vm.findClass RX10 = some m.cls := findClass_of_methodNamed B.named
  have hlocks := B.notSynchronized
  have F : mFix p s m _ c cX10_over 7 RX10 := ⟨hx, hb, hml, hown, hts⟩
  subst hsz
  have hD := hD0.self (sz := s.heap.size)
  generalize hAe : va_A [(h0, Sum.inr (9, [Value.ref m_tape, Value.int (nI ln), Value.int s_thrown, Value.ref m_rule, Value.ref m_rules, Value.int (nI sn), Value.ref m_stair, Value.int s_readStairs, Value.int s_fault, Value.int s_faultPlace, Value.int (nI w), Value.int (nI h), Value.ref m_low, Value.ref m_high, Value.ref m_crack, Value.int (nI bc), Value.ref m_weight, Value.ref m_fire, Value.ref m_crowd, Value.ref m_state, Value.ref m_where, Value.int s_hours, Value.int s_fees, Value.int s_looks, Value.ref m_words, Value.int s_end, Value.int s_next, Value.int s_kind, Value.int s_which, Value.int s_place, Value.int s_read, Value.ref m_told, Value.ref m_breaks, Value.ref m_row, Value.ref m_tried, Value.ref m_steps, Value.ref m_paths])), (m_state, Sum.inl (y_state, 10, Sum.inl f_state)), (m_crowd, Sum.inl (y_crowd, 10, Sum.inl f_crowd)), (m_paths, Sum.inl (y_paths, 40, Sum.inl f_paths)), (m_stair, Sum.inl (y_stair, 24, Sum.inl f_stair))] s.heap.size = A at hD hX ⊢
  have hA : ∀ q : Nat, s.heap.size ≤ q → A q := fun q h => by rw [← hAe]; exact Or.inr h
  have hS : va_S A s.heap s.heap [] := va_S.rf
  have hl := lv_entry ([Value.ref h0, Value.int (nI g), Value.int (nI t9)]) (n := 7) (Nat.le_of_ble_eq_true rfl)
  rw [lg_entry_eq]
  generalize (lg_sl ([Value.ref h0, Value.int (nI g), Value.int (nI t9)]) ++ List.replicate (7 - (lg_sl ([Value.ref h0, Value.int (nI g), Value.int (nI t9)])).length) Slot.unset).toArray = ls at hl ⊢
  have hl : lv_has ls 7 [(0, Value.ref h0), (1, Value.int (nI g)), (2, Value.int (nI t9))] := hl
  have hP : va_P D vwCl [(h0, Sum.inr (9, [Value.ref m_tape, Value.int (nI ln), Value.int s_thrown, Value.ref m_rule, Value.ref m_rules, Value.int (nI sn), Value.ref m_stair, Value.int s_readStairs, Value.int s_fault, Value.int s_faultPlace, Value.int (nI w), Value.int (nI h), Value.ref m_low, Value.ref m_high, Value.ref m_crack, Value.int (nI bc), Value.ref m_weight, Value.ref m_fire, Value.ref m_crowd, Value.ref m_state, Value.ref m_where, Value.int s_hours, Value.int s_fees, Value.int s_looks, Value.ref m_words, Value.int s_end, Value.int s_next, Value.int s_kind, Value.int s_which, Value.int s_place, Value.int s_read, Value.ref m_told, Value.ref m_breaks, Value.ref m_row, Value.ref m_tried, Value.ref m_steps, Value.ref m_paths])), (m_state, Sum.inl (y_state, 10, Sum.inl f_state)), (m_crowd, Sum.inl (y_crowd, 10, Sum.inl f_crowd)), (m_paths, Sum.inl (y_paths, 40, Sum.inl f_paths)), (m_stair, Sum.inl (y_stair, 24, Sum.inl f_stair))] s.heap := hP
  refine lv_iconst (v := 0) hx hb dX10_over_0 (by decide) ?_
  refine lv_istore_n (lv' := [(3, Value.int 0), (0, Value.ref h0), (1, Value.int (nI g)), (2, Value.int (nI t9))]) hx hb dX10_over_1 rfl hl (by decide) rfl (fun ls hl => ?_)
  refine lv_iconst (v := 0) hx hb dX10_over_2 (by decide) ?_
  refine lv_istore (lv' := [(4, Value.int 0), (3, Value.int 0), (0, Value.ref h0), (1, Value.int (nI g)), (2, Value.int (nI t9))]) hx hb dX10_over_3 hl (by decide) rfl (fun ls hl => ?_)
  refine lp_t_over1 F hA h0 m_tape ln s_thrown m_rule m_rules sn m_stair s_readStairs s_fault s_faultPlace w h m_low m_high m_crack bc m_weight m_fire m_crowd m_state m_where s_hours s_fees s_looks m_words s_end s_next s_kind s_which s_place s_read m_told m_breaks m_row m_tried m_steps m_paths y_state f_state y_crowd f_crowd y_paths f_paths y_stair f_stair g t9 cw (hK.sub [0, 1, 2, 3] rfl) (fun su_1 h_2 H locs hP hD hS ls hl => ?_) _ 0 0 (by omega) (by omega) (by omega) hCM rfl (Nat.lt_succ_self _) _ _ (hP.sub [0, 1, 2, 3, 4] rfl) (hD.sub [0, 1, 2, 3, 4] (by decide) rfl) hS ls (lv_sub hl [2, 3, 4, 1, 0] rfl)
  have h_2 : su_1 = menN cw g bc := h_2
  have hsu := h_2
  have hmb := menN_le (cw := cw) (g := g) bc (fun b hb => (hCM b hb).2)
  refine lv_iconst (v := 0) hx hb dX10_over_44 (by decide) ?_
  refine lv_istore (lv' := [(4, Value.int 0), (0, Value.ref h0), (1, Value.int (nI g)), (2, Value.int (nI t9)), (3, Value.int (nI su_1))]) hx hb dX10_over_45 hl (by decide) rfl (fun ls hl => ?_)
  refine lp_t_over3 F hA h0 m_tape ln s_thrown m_rule m_rules sn m_stair s_readStairs s_fault s_faultPlace w h m_low m_high m_crack bc m_weight m_fire m_crowd m_state m_where s_hours s_fees s_looks m_words s_end s_next s_kind s_which s_place s_read m_told m_breaks m_row m_tried m_steps m_paths y_state f_state y_crowd f_crowd y_paths f_paths y_stair f_stair g t9 cw mn dd (hK.sub [0, 1, 2, 3] rfl) (fun su_3 h_4 H locs hP hD hS ls hl => ?_) _ (nI su_1) 0 (by omega) (by omega) (by omega) (by omega) (by omega) hOS hPD hCM hMM (by rw [nI_toInt (by omega), hsu]; show _ = _ - ((0 : Nat) : Int); omega) (Nat.lt_succ_self _) _ _ (hP.sub [0, 1, 2, 3, 4] rfl) (hD.sub [0, 1, 2, 3, 4] (by decide) rfl) hS ls (lv_sub hl [1, 2, 3, 4, 0] rfl)
  have h_4 : su_3.toInt = ((menN cw g bc : Nat) : Int) - ((letN mn (fun s => fsN dd g s bc) t9 sn : Nat) : Int) := h_4
  refine lv_iload_n hx hb dX10_over_151 rfl (lv_at hl 0 rfl) ?_
  have hP9 := hP.sub (ws' := [(h0, Sum.inr (9, [Value.ref m_tape, Value.int (nI ln), Value.int s_thrown, Value.ref m_rule, Value.ref m_rules, Value.int (nI sn), Value.ref m_stair, Value.int s_readStairs, Value.int s_fault, Value.int s_faultPlace, Value.int (nI w), Value.int (nI h), Value.ref m_low, Value.ref m_high, Value.ref m_crack, Value.int (nI bc), Value.ref m_weight, Value.ref m_fire, Value.ref m_crowd, Value.ref m_state, Value.ref m_where, Value.int s_hours, Value.int s_fees, Value.int s_looks, Value.ref m_words, Value.int s_end, Value.int s_next, Value.int s_kind, Value.int s_which, Value.int s_place, Value.int s_read, Value.ref m_told, Value.ref m_breaks, Value.ref m_row, Value.ref m_tried, Value.ref m_steps, Value.ref m_paths])), (m_state, Sum.inl (y_state, 10, Sum.inl f_state)), (m_crowd, Sum.inl (y_crowd, 10, Sum.inl f_crowd)), (m_paths, Sum.inl (y_paths, 40, Sum.inl f_paths)), (m_stair, Sum.inl (y_stair, 24, Sum.inl f_stair))]) [0, 1, 2, 3, 4] rfl
  have hD9 := hD.sub (ws' := [(h0, Sum.inr (9, [Value.ref m_tape, Value.int (nI ln), Value.int s_thrown, Value.ref m_rule, Value.ref m_rules, Value.int (nI sn), Value.ref m_stair, Value.int s_readStairs, Value.int s_fault, Value.int s_faultPlace, Value.int (nI w), Value.int (nI h), Value.ref m_low, Value.ref m_high, Value.ref m_crack, Value.int (nI bc), Value.ref m_weight, Value.ref m_fire, Value.ref m_crowd, Value.ref m_state, Value.ref m_where, Value.int s_hours, Value.int s_fees, Value.int s_looks, Value.ref m_words, Value.int s_end, Value.int s_next, Value.int s_kind, Value.int s_which, Value.int s_place, Value.int s_read, Value.ref m_told, Value.ref m_breaks, Value.ref m_row, Value.ref m_tried, Value.ref m_steps, Value.ref m_paths])), (m_state, Sum.inl (y_state, 10, Sum.inl f_state)), (m_crowd, Sum.inl (y_crowd, 10, Sum.inl f_crowd)), (m_paths, Sum.inl (y_paths, 40, Sum.inl f_paths)), (m_stair, Sum.inl (y_stair, 24, Sum.inl f_stair))]) [0, 1, 2, 3, 4] (by decide) rfl
  have hK9 := hK.sub (tys' := []) [] rfl
  refine W.widen (k := 0) (n := 0) (by decide) (by decide) ?_
  exact W.iret (v := su_3) hx hb hr (fun t ht hW => ⟨⟨su_3, (), rfl, h_4, by rw [ht]; exact hP9, va_K.moved hW.alike hK9, hD9⟩, hS.F ht⟩) hS.2.2 dX10_over_152
