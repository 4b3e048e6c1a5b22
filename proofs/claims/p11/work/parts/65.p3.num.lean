set_option maxHeartbeats 4000000 in
set_option maxRecDepth 100000 in
theorem p_allows (l : Launch) (D : va_G) (en : Nat → Nat) (i : Nat) (a : Nat) (b : Nat) (hi7 : i < 7) (ha : a < 3) (hb : b ≤ 1000) : cI l yX5_allows (.code yX5_allows cX5_allows 4 (some .boolean)) ({ frames := 0, cells := 0, slots := 0, locals := 0 }) D [] [] (xN en) [Value.ref (en i), Value.int (nI a), Value.int (nI b)] (S := Unit) (fun r _ => r = (if b < nLo i a ∨ mxN i < b then 0 else 1)) (fun _ => []) (fun _ => []) := by
  intro sz
  refine Met.ofW (cc := cX5_allows) (maxL := 4) (ret := (some .boolean)) (by decide) rfl ?_
  intro p e s m args below meth c s₁ B hml hv
  obtain ⟨rfl, hsz, hP, hK, hD0, hX⟩ := hv
  have hx := B.exec
  have hb := B.bytes
  have hr := B.returns
  have hts0 := atoms_spec (ws := .code yX5_allows cX5_allows 4 (some .boolean) :: gw) B.pre
  have hts := fun (w : Cond) (h : w ∈ gw) => hts0 w (List.mem_cons_of_mem _ h)
  have hown : s.vm.findClass RX5 = some m.cls := findClass_of_methodNamed B.named
  have hlocks := B.notSynchronized
  have F : mFix p s m _ c cX5_allows 4 RX5 := ⟨hx, hb, hml, hown, hts⟩
  subst hsz
  have hD := hD0.self (sz := s.heap.size)
  generalize hAe : va_A [] s.heap.size = A at hD hX ⊢
  have hA : ∀ q : Nat, s.heap.size ≤ q → A q := fun q h => by rw [← hAe]; exact Or.inr h
  have hS : va_S A s.heap s.heap [] := va_S.rf
  have hl := lv_entry ([Value.ref (en i), Value.int (nI a), Value.int (nI b)]) (n := 4) (Nat.le_of_ble_eq_true rfl)
  rw [lg_entry_eq]
  generalize (lg_sl ([Value.ref (en i), Value.int (nI a), Value.int (nI b)]) ++ List.replicate (4 - (lg_sl ([Value.ref (en i), Value.int (nI a), Value.int (nI b)])).length) Slot.unset).toArray = ls at hl ⊢
  have hl : lv_has ls 4 [(0, Value.ref (en i)), (1, Value.int (nI a)), (2, Value.int (nI b))] := hl
  have hP : va_P D vwCl [] s.heap := hP
  have hle := leN_le i hi7
  have hmx := mxN_le i hi7
  refine lv_aload_n hx hb dX5_allows_0 rfl (lv_at hl 0 rfl) ?_
  refine va_gets hx hb (C := RX5) (n := "STAIR") ((hX).1 6 (by decide)).1 hS hown (hts _ kw_2_211) (fun _ h9 => h9) dX5_allows_1 ?_
  refine x_acmp_ne (tgt := 16) hx hb dX5_allows_4 (by decide) (fun c_1 => ?_) (fun c_1 => ?_)
  · skip
    have hi6 : ¬ i = 6 := fun h => c_1 (by rw [h])
    have hlo : nLo i a = leN i := if_neg (fun q => hi6 q.1)
    refine lv_aload_n hx hb dX5_allows_16 rfl (lv_at hl 0 rfl) ?_
    refine x_getE hx hb (i := i) hX (by omega) hS hown (q := (RX5, "least", "I", enLe)) (List.mem_of_getElem? (i := 2) rfl) rfl (hts _ kw_6_42) dX5_allows_17 ?_
    refine lv_topi (fun z_2 ez_2 => ?_)
    obtain rfl : z_2 = nI (leN i) := ez_2.trans (enLe_nI i (by omega))
    refine lv_istore_n (lv' := [(3, Value.int (nI (leN i))), (0, Value.ref (en i)), (1, Value.int (nI a)), (2, Value.int (nI b))]) hx hb dX5_allows_20 rfl hl (by decide) rfl (fun ls hl => ?_)
    refine lv_iload_n hx hb dX5_allows_21 rfl (lv_at hl 3 rfl) ?_
    refine lv_iload_n hx hb dX5_allows_22 rfl (lv_at hl 0 rfl) ?_
    refine lv_icmp_lt (tgt := 38) hx hb dX5_allows_23 (by decide) (fun c_3 => ?_) (fun c_3 => ?_)
    · skip
      have c_3n : b < (leN i) := (nI_ltI (by omega) (by omega)).mp c_3
      refine lv_iconst (v := 0) hx hb dX5_allows_38 (by decide) ?_
      have hP9 := hP.sub (ws' := []) [] rfl
      have hD9 := hD.sub (ws' := []) [] (by decide) rfl
      have hK9 := hK.sub (tys' := []) [] rfl
      refine W.widen (k := 0) (n := 0) (by decide) (by decide) ?_
      exact W.zret (v := 0) hx hb hr rfl (fun t ht hW => ⟨⟨0, (), rfl, (if_pos (Or.inl (by omega))).symm, by rw [ht]; exact hP9, va_K.moved hW.alike hK9, hD9⟩, hS.F ht⟩) hS.2.2 dX5_allows_39
    · skip
      have c_3n : (leN i) ≤ b := nb_lt (by omega) (by omega) c_3
      refine lv_iload_n hx hb dX5_allows_26 rfl (lv_at hl 3 rfl) ?_
      refine lv_aload_n hx hb dX5_allows_27 rfl (lv_at hl 1 rfl) ?_
      refine x_getE hx hb (i := i) hX (by omega) hS hown (q := (RX5, "most", "I", enMo)) (List.mem_of_getElem? (i := 3) rfl) rfl (hts _ kw_6_43) dX5_allows_28 ?_
      refine lv_topi (fun z_4 ez_4 => ?_)
      obtain rfl : z_4 = nI (mxN i) := ez_4.trans (enMo_nI i (by omega))
      refine lv_icmp_gt (tgt := 38) hx hb dX5_allows_31 (by decide) (fun c_5 => ?_) (fun c_5 => ?_)
      · skip
        have c_5n : (mxN i) < b := (nI_ltI (by omega) (by omega)).mp c_5
        refine lv_iconst (v := 0) hx hb dX5_allows_38 (by decide) ?_
        have hP9 := hP.sub (ws' := []) [] rfl
        have hD9 := hD.sub (ws' := []) [] (by decide) rfl
        have hK9 := hK.sub (tys' := []) [] rfl
        refine W.widen (k := 0) (n := 0) (by decide) (by decide) ?_
        exact W.zret (v := 0) hx hb hr rfl (fun t ht hW => ⟨⟨0, (), rfl, (if_pos (Or.inr (by omega))).symm, by rw [ht]; exact hP9, va_K.moved hW.alike hK9, hD9⟩, hS.F ht⟩) hS.2.2 dX5_allows_39
      · skip
        have c_5n : b ≤ (mxN i) := nb_lt (by omega) (by omega) c_5
        refine lv_iconst (v := 1) hx hb dX5_allows_34 (by decide) ?_
        refine lv_goto (tgt := 39) hx hb dX5_allows_35 (by decide) ?_
        have hP9 := hP.sub (ws' := []) [] rfl
        have hD9 := hD.sub (ws' := []) [] (by decide) rfl
        have hK9 := hK.sub (tys' := []) [] rfl
        refine W.widen (k := 0) (n := 0) (by decide) (by decide) ?_
        exact W.zret (v := 1) hx hb hr rfl (fun t ht hW => ⟨⟨1, (), rfl, (if_neg (fun q => by omega)).symm, by rw [ht]; exact hP9, va_K.moved hW.alike hK9, hD9⟩, hS.F ht⟩) hS.2.2 dX5_allows_39
  · skip
    have hi6 : i = 6 := x_ne hX hi7 (by decide) c_1
    refine lv_iload_n hx hb dX5_allows_7 rfl (lv_at hl 1 rfl) ?_
    refine lv_iconst (v := 2) hx hb dX5_allows_8 (by decide) ?_
    refine lv_icmp_ne (tgt := 16) hx hb dX5_allows_9 (by decide) (fun c_6 => ?_) (fun c_6 => ?_)
    · skip
      have c_6n : ¬ a = 2 := nb_eq (by omega) (by omega) c_6
      have hlo : nLo i a = leN i := if_neg (fun q => c_6n q.2)
      refine lv_aload_n hx hb dX5_allows_16 rfl (lv_at hl 0 rfl) ?_
      refine x_getE hx hb (i := i) hX (by omega) hS hown (q := (RX5, "least", "I", enLe)) (List.mem_of_getElem? (i := 2) rfl) rfl (hts _ kw_6_42) dX5_allows_17 ?_
      refine lv_topi (fun z_7 ez_7 => ?_)
      obtain rfl : z_7 = nI (leN i) := ez_7.trans (enLe_nI i (by omega))
      refine lv_istore_n (lv' := [(3, Value.int (nI (leN i))), (0, Value.ref (en i)), (1, Value.int (nI a)), (2, Value.int (nI b))]) hx hb dX5_allows_20 rfl hl (by decide) rfl (fun ls hl => ?_)
      refine lv_iload_n hx hb dX5_allows_21 rfl (lv_at hl 3 rfl) ?_
      refine lv_iload_n hx hb dX5_allows_22 rfl (lv_at hl 0 rfl) ?_
      refine lv_icmp_lt (tgt := 38) hx hb dX5_allows_23 (by decide) (fun c_8 => ?_) (fun c_8 => ?_)
      · skip
        have c_8n : b < (leN i) := (nI_ltI (by omega) (by omega)).mp c_8
        refine lv_iconst (v := 0) hx hb dX5_allows_38 (by decide) ?_
        have hP9 := hP.sub (ws' := []) [] rfl
        have hD9 := hD.sub (ws' := []) [] (by decide) rfl
        have hK9 := hK.sub (tys' := []) [] rfl
        refine W.widen (k := 0) (n := 0) (by decide) (by decide) ?_
        exact W.zret (v := 0) hx hb hr rfl (fun t ht hW => ⟨⟨0, (), rfl, (if_pos (Or.inl (by omega))).symm, by rw [ht]; exact hP9, va_K.moved hW.alike hK9, hD9⟩, hS.F ht⟩) hS.2.2 dX5_allows_39
      · skip
        have c_8n : (leN i) ≤ b := nb_lt (by omega) (by omega) c_8
        refine lv_iload_n hx hb dX5_allows_26 rfl (lv_at hl 3 rfl) ?_
        refine lv_aload_n hx hb dX5_allows_27 rfl (lv_at hl 1 rfl) ?_
        refine x_getE hx hb (i := i) hX (by omega) hS hown (q := (RX5, "most", "I", enMo)) (List.mem_of_getElem? (i := 3) rfl) rfl (hts _ kw_6_43) dX5_allows_28 ?_
        refine lv_topi (fun z_9 ez_9 => ?_)
        obtain rfl : z_9 = nI (mxN i) := ez_9.trans (enMo_nI i (by omega))
        refine lv_icmp_gt (tgt := 38) hx hb dX5_allows_31 (by decide) (fun c_10 => ?_) (fun c_10 => ?_)
        · skip
          have c_10n : (mxN i) < b := (nI_ltI (by omega) (by omega)).mp c_10
          refine lv_iconst (v := 0) hx hb dX5_allows_38 (by decide) ?_
          have hP9 := hP.sub (ws' := []) [] rfl
          have hD9 := hD.sub (ws' := []) [] (by decide) rfl
          have hK9 := hK.sub (tys' := []) [] rfl
          refine W.widen (k := 0) (n := 0) (by decide) (by decide) ?_
          exact W.zret (v := 0) hx hb hr rfl (fun t ht hW => ⟨⟨0, (), rfl, (if_pos (Or.inr (by omega))).symm, by rw [ht]; exact hP9, va_K.moved hW.alike hK9, hD9⟩, hS.F ht⟩) hS.2.2 dX5_allows_39
        · skip
          have c_10n : b ≤ (mxN i) := nb_lt (by omega) (by omega) c_10
          refine lv_iconst (v := 1) hx hb dX5_allows_34 (by decide) ?_
          refine lv_goto (tgt := 39) hx hb dX5_allows_35 (by decide) ?_
          have hP9 := hP.sub (ws' := []) [] rfl
          have hD9 := hD.sub (ws' := []) [] (by decide) rfl
          have hK9 := hK.sub (tys' := []) [] rfl
          refine W.widen (k := 0) (n := 0) (by decide) (by decide) ?_
          exact W.zret (v := 1) hx hb hr rfl (fun t ht hW => ⟨⟨1, (), rfl, (if_neg (fun q => by omega)).symm, by rw [ht]; exact hP9, va_K.moved hW.alike hK9, hD9⟩, hS.F ht⟩) hS.2.2 dX5_allows_39
    · skip
      have c_6n : a = 2 := (nI_eq (by omega) (by omega)).mp c_6
      have hlo : nLo i a = 1 := if_pos ⟨hi6, c_6n⟩
      refine lv_iconst (v := 1) hx hb dX5_allows_12 (by decide) ?_
      refine lv_goto (tgt := 20) hx hb dX5_allows_13 (by decide) ?_
      refine lv_istore_n (lv' := [(3, Value.int 1), (0, Value.ref (en i)), (1, Value.int (nI a)), (2, Value.int (nI b))]) hx hb dX5_allows_20 rfl hl (by decide) rfl (fun ls hl => ?_)
      refine lv_iload_n hx hb dX5_allows_21 rfl (lv_at hl 3 rfl) ?_
      refine lv_iload_n hx hb dX5_allows_22 rfl (lv_at hl 0 rfl) ?_
      refine lv_icmp_lt (tgt := 38) hx hb dX5_allows_23 (by decide) (fun c_11 => ?_) (fun c_11 => ?_)
      · skip
        have c_11n : b < 1 := (nI_ltI (by omega) (by omega)).mp c_11
        refine lv_iconst (v := 0) hx hb dX5_allows_38 (by decide) ?_
        have hP9 := hP.sub (ws' := []) [] rfl
        have hD9 := hD.sub (ws' := []) [] (by decide) rfl
        have hK9 := hK.sub (tys' := []) [] rfl
        refine W.widen (k := 0) (n := 0) (by decide) (by decide) ?_
        exact W.zret (v := 0) hx hb hr rfl (fun t ht hW => ⟨⟨0, (), rfl, (if_pos (Or.inl (by omega))).symm, by rw [ht]; exact hP9, va_K.moved hW.alike hK9, hD9⟩, hS.F ht⟩) hS.2.2 dX5_allows_39
      · skip
        have c_11n : 1 ≤ b := nb_lt (by omega) (by omega) c_11
        refine lv_iload_n hx hb dX5_allows_26 rfl (lv_at hl 3 rfl) ?_
        refine lv_aload_n hx hb dX5_allows_27 rfl (lv_at hl 1 rfl) ?_
        refine x_getE hx hb (i := i) hX (by omega) hS hown (q := (RX5, "most", "I", enMo)) (List.mem_of_getElem? (i := 3) rfl) rfl (hts _ kw_6_43) dX5_allows_28 ?_
        refine lv_topi (fun z_12 ez_12 => ?_)
        obtain rfl : z_12 = nI (mxN i) := ez_12.trans (enMo_nI i (by omega))
        refine lv_icmp_gt (tgt := 38) hx hb dX5_allows_31 (by decide) (fun c_13 => ?_) (fun c_13 => ?_)
        · skip
          have c_13n : (mxN i) < b := (nI_ltI (by omega) (by omega)).mp c_13
          refine lv_iconst (v := 0) hx hb dX5_allows_38 (by decide) ?_
          have hP9 := hP.sub (ws' := []) [] rfl
          have hD9 := hD.sub (ws' := []) [] (by decide) rfl
          have hK9 := hK.sub (tys' := []) [] rfl
          refine W.widen (k := 0) (n := 0) (by decide) (by decide) ?_
          exact W.zret (v := 0) hx hb hr rfl (fun t ht hW => ⟨⟨0, (), rfl, (if_pos (Or.inr (by omega))).symm, by rw [ht]; exact hP9, va_K.moved hW.alike hK9, hD9⟩, hS.F ht⟩) hS.2.2 dX5_allows_39
        · skip
          have c_13n : b ≤ (mxN i) := nb_lt (by omega) (by omega) c_13
          refine lv_iconst (v := 1) hx hb dX5_allows_34 (by decide) ?_
          refine lv_goto (tgt := 39) hx hb dX5_allows_35 (by decide) ?_
          have hP9 := hP.sub (ws' := []) [] rfl
          have hD9 := hD.sub (ws' := []) [] (by decide) rfl
          have hK9 := hK.sub (tys' := []) [] rfl
          refine W.widen (k := 0) (n := 0) (by decide) (by decide) ?_
          exact W.zret (v := 1) hx hb hr rfl (fun t ht hW => ⟨⟨1, (), rfl, (if_neg (fun q => by omega)).symm, by rw [ht]; exact hP9, va_K.moved hW.alike hK9, hD9⟩, hS.F ht⟩) hS.2.2 dX5_allows_39
set_option maxHeartbeats 4000000 in
set_option maxRecDepth 100000 in
theorem lp_p_hasStairAt {p : Program} {l : Launch} {e : Env} {s : State} {m : MethodId} {args : Array Value} {below : List Frame} {meth : Method} {c : Code} {Q : State → Prop} {A : Nat → Prop} {D : va_G} (F : mFix p s m args c cX1_hasStairAt 4 RX1) (hA : ∀ q, s.heap.size ≤ q → A q) (h0 : Nat) (cu1 : Nat) (cu2 : Nat) (cu3 : Nat) (cu4 : Nat) (cc2 : ClassId) (cc3 : ClassId) (c2 : Nat → Int32) (c3 : Nat → Int32) (sc : Nat) (to : Int32) (sx : Nat → Nat) (sy : Nat → Nat) (a : Nat) (b : Nat) (hK : va_K D vwCl [(cc2, .int), (cc3, .int)] s)
    (kx_35 : ∀ (i : Nat), (i < sc ∧ sx i = a ∧ sy i = b) → ∀ (H : Heap) (locs : List Loc), va_P D vwCl [(h0, Sum.inr (1, [Value.ref cu1, Value.ref cu2, Value.ref cu3, Value.ref cu4, Value.int (nI sc), Value.int to])), (cu2, Sum.inl (cc2, 4, Sum.inl c2)), (cu3, Sum.inl (cc3, 4, Sum.inl c3))] H → va_D A [(h0, Sum.inr (1, [Value.ref cu1, Value.ref cu2, Value.ref cu3, Value.ref cu4, Value.int (nI sc), Value.int to])), (cu2, Sum.inl (cc2, 4, Sum.inl c2)), (cu3, Sum.inl (cc3, 4, Sum.inl c3))] → va_S A s.heap H locs → ∀ ls : Array Slot, lv_has ls 4 [] → W p l e ({ frames := 0, cells := 0, slots := 0, locals := 0 }) s m args below meth c H locs 0 0 Q (F0 m 35 ls []))
    (kx_43 : (∀ q, q < sc → ¬ (sx q = a ∧ sy q = b)) → ∀ (H : Heap) (locs : List Loc), va_P D vwCl [(h0, Sum.inr (1, [Value.ref cu1, Value.ref cu2, Value.ref cu3, Value.ref cu4, Value.int (nI sc), Value.int to])), (cu2, Sum.inl (cc2, 4, Sum.inl c2)), (cu3, Sum.inl (cc3, 4, Sum.inl c3))] H → va_D A [(h0, Sum.inr (1, [Value.ref cu1, Value.ref cu2, Value.ref cu3, Value.ref cu4, Value.int (nI sc), Value.int to])), (cu2, Sum.inl (cc2, 4, Sum.inl c2)), (cu3, Sum.inl (cc3, 4, Sum.inl c3))] → va_S A s.heap H locs → ∀ ls : Array Slot, lv_has ls 4 [] → W p l e ({ frames := 0, cells := 0, slots := 0, locals := 0 }) s m args below meth c H locs 0 0 Q (F0 m 43 ls [])) :
    ∀ n : Nat, ∀ (i : Nat), (i ≤ sc) → (sc ≤ 4) → (∀ q, q < sc → c2 q = nI (sx q) ∧ c3 q = nI (sy q) ∧ sx q ≤ 1000 ∧ sy q ≤ 1000) → (a ≤ 1000) → (b ≤ 1000) → (∀ q, q < i → ¬ (sx q = a ∧ sy q = b)) → (sc - i) < n → ∀ (H : Heap) (locs : List Loc), va_P D vwCl [(h0, Sum.inr (1, [Value.ref cu1, Value.ref cu2, Value.ref cu3, Value.ref cu4, Value.int (nI sc), Value.int to])), (cu2, Sum.inl (cc2, 4, Sum.inl c2)), (cu3, Sum.inl (cc3, 4, Sum.inl c3))] H → va_D A [(h0, Sum.inr (1, [Value.ref cu1, Value.ref cu2, Value.ref cu3, Value.ref cu4, Value.int (nI sc), Value.int to])), (cu2, Sum.inl (cc2, 4, Sum.inl c2)), (cu3, Sum.inl (cc3, 4, Sum.inl c3))] → va_S A s.heap H locs → ∀ ls : Array Slot, lv_has ls 4 [(0, Value.ref h0), (1, Value.int (nI a)), (2, Value.int (nI b)), (3, Value.int (nI i))] → W p l e ({ frames := 0, cells := 0, slots := 0, locals := 0 }) s m args below meth c H locs 0 0 Q (F0 m 2 ls []) := by
  intro n
  induction n with
  | zero => intro i hi hsc4 hcs ha9 hb9 hno hn; exact absurd hn (Nat.not_lt_zero _)
  | succ n ih =>
    intro i hi hsc4 hcs ha9 hb9 hno hn H locs hP hD hS ls hl
    obtain ⟨hx, hb, hml, hown, hts⟩ := id F
    refine lv_iload_n hx hb dX1_hasStairAt_2 rfl (lv_at hl 3 rfl) ?_
    refine lv_aload_n hx hb dX1_hasStairAt_3 rfl (lv_at hl 0 rfl) ?_
    refine va_get (D := D) (ci := 1) (v := Value.int (nI sc)) (C := RX1) (T := TX1) (N := 6) hx hb hts inG_X1 hown hK hP 0 rfl rfl 4 (by decide) (hts _ kw_1_106) (fun _ h9 => h9) rfl dX1_hasStairAt_4 ?_
    refine lv_icmp_ge (tgt := 43) hx hb dX1_hasStairAt_7 (by decide) (fun c_1 => ?_) (fun c_1 => ?_)
    · skip
      have c_1n : sc ≤ i := (nI_leI (by omega) (by omega)).mp c_1
      have c_1 := Int32.not_lt.mpr c_1
      exact kx_43  (fun q hq => hno q (by omega)) H locs (hP.sub [0, 1, 2] rfl) (hD.sub [0, 1, 2] (by decide) rfl) hS ls (lv_sub hl [] rfl)
    · skip
      have c_1n : i < sc := nb_le (by omega) (by omega) c_1
      have c_1 := Int32.not_le.mp c_1
      refine lv_iload_n hx hb dX1_hasStairAt_10 rfl (lv_at hl 3 rfl) ?_
      refine lv_iconst (v := 4) hx hb dX1_hasStairAt_11 (by decide) ?_
      refine lv_icmp_ge (tgt := 43) hx hb dX1_hasStairAt_12 (by decide) (fun c_2 => ?_) (fun c_2 => ?_)
      · skip
        have c_2n : 4 ≤ i := (nI_leI (by omega) (by omega)).mp c_2
        have c_2 := Int32.not_lt.mpr c_2
        exact kx_43  (fun q hq => hno q (by omega)) H locs (hP.sub [0, 1, 2] rfl) (hD.sub [0, 1, 2] (by decide) rfl) hS ls (lv_sub hl [] rfl)
      · skip
        have c_2n : i < 4 := nb_le (by omega) (by omega) c_2
        have c_2 := Int32.not_le.mp c_2
        refine lv_aload_n hx hb dX1_hasStairAt_15 rfl (lv_at hl 0 rfl) ?_
        refine va_get (D := D) (ci := 1) (v := Value.ref cu2) (C := RX1) (T := TX1) (N := 6) hx hb hts inG_X1 hown hK hP 0 rfl rfl 1 (by decide) (hts _ kw_1_100) (fun _ h9 => h9) rfl dX1_hasStairAt_16 ?_
        refine lv_iload_n hx hb dX1_hasStairAt_19 rfl (lv_at hl 3 rfl) ?_
        refine m_iald hx hb hK hP 1 0 rfl rfl i rfl (by omega) (by decide) dX1_hasStairAt_20 ?_
        refine lv_topi (fun v_3 ev_3 => ?_)
        have hqv_3 := hcs i (by omega)
        obtain rfl : v_3 = nI (sx i) := ev_3.trans hqv_3.1
        refine lv_iload_n hx hb dX1_hasStairAt_21 rfl (lv_at hl 1 rfl) ?_
        refine lv_icmp_ne (tgt := 37) hx hb dX1_hasStairAt_22 (by decide) (fun c_4 => ?_) (fun c_4 => ?_)
        · skip
          have c_4n : ¬ (sx i) = a := nb_eq (by omega) (by omega) c_4
          refine lv_iinc (v := nI (i + 1)) (lv' := [(3, Value.int (nI (i + 1))), (0, Value.ref h0), (1, Value.int (nI a)), (2, Value.int (nI b))]) hx hb dX1_hasStairAt_37 hl (k := 3) rfl (nI_add i 1) (by decide) rfl (fun ls hl => ?_)
          refine lv_goto (tgt := 2) hx hb dX1_hasStairAt_40 (by decide) ?_
          exact ih (i + 1) (by omega) (by omega) hcs (by omega) (by omega) (fun q hq => by rcases (show q < i ∨ q = i by omega) with h9 | rfl; exact hno q h9; exact fun h9 => c_4n h9.1) (by omega) H locs (hP.sub [0, 1, 2] rfl) (hD.sub [0, 1, 2] (by decide) rfl) hS ls (lv_sub hl [1, 2, 3, 0] rfl)
        · skip
          have c_4n : (sx i) = a := (nI_eq (by omega) (by omega)).mp c_4
          refine lv_aload_n hx hb dX1_hasStairAt_25 rfl (lv_at hl 0 rfl) ?_
          refine va_get (D := D) (ci := 1) (v := Value.ref cu3) (C := RX1) (T := TX1) (N := 6) hx hb hts inG_X1 hown hK hP 0 rfl rfl 2 (by decide) (hts _ kw_1_102) (fun _ h9 => h9) rfl dX1_hasStairAt_26 ?_
          refine lv_iload_n hx hb dX1_hasStairAt_29 rfl (lv_at hl 3 rfl) ?_
          refine m_iald hx hb hK hP 2 1 rfl rfl i rfl (by omega) (by decide) dX1_hasStairAt_30 ?_
          refine lv_topi (fun v_5 ev_5 => ?_)
          have hqv_5 := hcs i (by omega)
          obtain rfl : v_5 = nI (sy i) := ev_5.trans hqv_5.2.1
          refine lv_iload_n hx hb dX1_hasStairAt_31 rfl (lv_at hl 2 rfl) ?_
          refine lv_icmp_ne (tgt := 37) hx hb dX1_hasStairAt_32 (by decide) (fun c_6 => ?_) (fun c_6 => ?_)
          · skip
            have c_6n : ¬ (sy i) = b := nb_eq (by omega) (by omega) c_6
            refine lv_iinc (v := nI (i + 1)) (lv' := [(3, Value.int (nI (i + 1))), (0, Value.ref h0), (1, Value.int (nI a)), (2, Value.int (nI b))]) hx hb dX1_hasStairAt_37 hl (k := 3) rfl (nI_add i 1) (by decide) rfl (fun ls hl => ?_)
            refine lv_goto (tgt := 2) hx hb dX1_hasStairAt_40 (by decide) ?_
            exact ih (i + 1) (by omega) (by omega) hcs (by omega) (by omega) (fun q hq => by rcases (show q < i ∨ q = i by omega) with h9 | rfl; exact hno q h9; exact fun h9 => c_6n h9.2) (by omega) H locs (hP.sub [0, 1, 2] rfl) (hD.sub [0, 1, 2] (by decide) rfl) hS ls (lv_sub hl [1, 2, 3, 0] rfl)
          · skip
            have c_6n : (sy i) = b := (nI_eq (by omega) (by omega)).mp c_6
            exact kx_35 i (⟨by omega, c_4n, c_6n⟩) H locs (hP.sub [0, 1, 2] rfl) (hD.sub [0, 1, 2] (by decide) rfl) hS ls (lv_sub hl [] rfl)
set_option maxHeartbeats 4000000 in
set_option maxRecDepth 100000 in
theorem p_hasStairAt (l : Launch) (D : va_G) (h0 : Nat) (cu1 : Nat) (cu2 : Nat) (cu3 : Nat) (cu4 : Nat) (cc2 : ClassId) (cc3 : ClassId) (c2 : Nat → Int32) (c3 : Nat → Int32) (sc : Nat) (to : Int32) (sx : Nat → Nat) (sy : Nat → Nat) (a : Nat) (b : Nat) (hsc4 : sc ≤ 4) (hcs : ∀ q, q < sc → c2 q = nI (sx q) ∧ c3 q = nI (sy q) ∧ sx q ≤ 1000 ∧ sy q ≤ 1000) (ha9 : a ≤ 1000) (hb9 : b ≤ 1000) : cI l yX1_hasStairAt (.code yX1_hasStairAt cX1_hasStairAt 4 (some .boolean)) ({ frames := 0, cells := 0, slots := 0, locals := 0 }) D [(cc2, .int), (cc3, .int)] [(h0, Sum.inr (1, [Value.ref cu1, Value.ref cu2, Value.ref cu3, Value.ref cu4, Value.int (nI sc), Value.int to])), (cu2, Sum.inl (cc2, 4, Sum.inl c2)), (cu3, Sum.inl (cc3, 4, Sum.inl c3))] xT [Value.ref h0, Value.int (nI a), Value.int (nI b)] (S := Unit) (fun r _ => r = (if cDup sx sy sc a b then 1 else 0)) (fun _ => []) (fun _ => [(h0, Sum.inr (1, [Value.ref cu1, Value.ref cu2, Value.ref cu3, Value.ref cu4, Value.int (nI sc), Value.int to])), (cu2, Sum.inl (cc2, 4, Sum.inl c2)), (cu3, Sum.inl (cc3, 4, Sum.inl c3))]) := by
  intro sz
  refine Met.ofW (cc := cX1_hasStairAt) (maxL := 4) (ret := (some .boolean)) (by decide) rfl ?_
  intro p e s m args below meth c s₁ B hml hv
  obtain ⟨rfl, hsz, hP, hK, hD0, hX⟩ := hv
  have hx := B.exec
  have hb := B.bytes
  have hr := B.returns
  have hts0 := atoms_spec (ws := .code yX1_hasStairAt cX1_hasStairAt 4 (some .boolean) :: gw) B.pre
  have hts := fun (w : Cond) (h : w ∈ gw) => hts0 w (List.mem_cons_of_mem _ h)
  have hown : s.vm.findClass RX1 = some m.cls := findClass_of_methodNamed B.named
  have hlocks := B.notSynchronized
  have F : mFix p s m _ c cX1_hasStairAt 4 RX1 := ⟨hx, hb, hml, hown, hts⟩
  subst hsz
  have hD := hD0.self (sz := s.heap.size)
  generalize hAe : va_A [(h0, Sum.inr (1, [Value.ref cu1, Value.ref cu2, Value.ref cu3, Value.ref cu4, Value.int (nI sc), Value.int to])), (cu2, Sum.inl (cc2, 4, Sum.inl c2)), (cu3, Sum.inl (cc3, 4, Sum.inl c3))] s.heap.size = A at hD hX ⊢
  have hA : ∀ q : Nat, s.heap.size ≤ q → A q := fun q h => by rw [← hAe]; exact Or.inr h
  have hS : va_S A s.heap s.heap [] := va_S.rf
  have hl := lv_entry ([Value.ref h0, Value.int (nI a), Value.int (nI b)]) (n := 4) (Nat.le_of_ble_eq_true rfl)
  rw [lg_entry_eq]
  generalize (lg_sl ([Value.ref h0, Value.int (nI a), Value.int (nI b)]) ++ List.replicate (4 - (lg_sl ([Value.ref h0, Value.int (nI a), Value.int (nI b)])).length) Slot.unset).toArray = ls at hl ⊢
  have hl : lv_has ls 4 [(0, Value.ref h0), (1, Value.int (nI a)), (2, Value.int (nI b))] := hl
  have hP : va_P D vwCl [(h0, Sum.inr (1, [Value.ref cu1, Value.ref cu2, Value.ref cu3, Value.ref cu4, Value.int (nI sc), Value.int to])), (cu2, Sum.inl (cc2, 4, Sum.inl c2)), (cu3, Sum.inl (cc3, 4, Sum.inl c3))] s.heap := hP
  refine lv_iconst (v := 0) hx hb dX1_hasStairAt_0 (by decide) ?_
  refine lv_istore_n (lv' := [(3, Value.int 0), (0, Value.ref h0), (1, Value.int (nI a)), (2, Value.int (nI b))]) hx hb dX1_hasStairAt_1 rfl hl (by decide) rfl (fun ls hl => ?_)
  refine lp_p_hasStairAt F hA h0 cu1 cu2 cu3 cu4 cc2 cc3 c2 c3 sc to sx sy a b (hK.sub [0, 1] rfl) (fun i_1 h_2 H locs hP hD hS ls hl => ?_) (fun  h_3 H locs hP hD hS ls hl => ?_) _ 0 (by omega) (by omega) hcs (by omega) (by omega) (fun q hq => absurd hq (Nat.not_lt_zero q)) (Nat.lt_succ_self _) _ _ (hP.sub [0, 1, 2] rfl) (hD.sub [0, 1, 2] (by decide) rfl) hS ls (lv_sub hl [1, 2, 3, 0] rfl)
  · skip
    have h_2 : i_1 < sc ∧ sx i_1 = a ∧ sy i_1 = b := h_2
    refine lv_iconst (v := 1) hx hb dX1_hasStairAt_35 (by decide) ?_
    have hP9 := hP.sub (ws' := [(h0, Sum.inr (1, [Value.ref cu1, Value.ref cu2, Value.ref cu3, Value.ref cu4, Value.int (nI sc), Value.int to])), (cu2, Sum.inl (cc2, 4, Sum.inl c2)), (cu3, Sum.inl (cc3, 4, Sum.inl c3))]) [0, 1, 2] rfl
    have hD9 := hD.sub (ws' := [(h0, Sum.inr (1, [Value.ref cu1, Value.ref cu2, Value.ref cu3, Value.ref cu4, Value.int (nI sc), Value.int to])), (cu2, Sum.inl (cc2, 4, Sum.inl c2)), (cu3, Sum.inl (cc3, 4, Sum.inl c3))]) [0, 1, 2] (by decide) rfl
    have hK9 := hK.sub (tys' := []) [] rfl
    refine W.widen (k := 0) (n := 0) (by decide) (by decide) ?_
    exact W.zret (v := 1) hx hb hr rfl (fun t ht hW => ⟨⟨1, (), rfl, (by rw [cDup_t ⟨_, h_2⟩]; rfl), by rw [ht]; exact hP9, va_K.moved hW.alike hK9, hD9⟩, hS.F ht⟩) hS.2.2 dX1_hasStairAt_36
  · skip
    have h_3 : ∀ q, q < sc → ¬ (sx q = a ∧ sy q = b) := h_3
    refine lv_iconst (v := 0) hx hb dX1_hasStairAt_43 (by decide) ?_
    have hP9 := hP.sub (ws' := [(h0, Sum.inr (1, [Value.ref cu1, Value.ref cu2, Value.ref cu3, Value.ref cu4, Value.int (nI sc), Value.int to])), (cu2, Sum.inl (cc2, 4, Sum.inl c2)), (cu3, Sum.inl (cc3, 4, Sum.inl c3))]) [0, 1, 2] rfl
    have hD9 := hD.sub (ws' := [(h0, Sum.inr (1, [Value.ref cu1, Value.ref cu2, Value.ref cu3, Value.ref cu4, Value.int (nI sc), Value.int to])), (cu2, Sum.inl (cc2, 4, Sum.inl c2)), (cu3, Sum.inl (cc3, 4, Sum.inl c3))]) [0, 1, 2] (by decide) rfl
    have hK9 := hK.sub (tys' := []) [] rfl
    refine W.widen (k := 0) (n := 0) (by decide) (by decide) ?_
    exact W.zret (v := 0) hx hb hr rfl (fun t ht hW => ⟨⟨0, (), rfl, (by rw [cDup_f (fun q => by obtain ⟨q9, h9, g9⟩ := q; exact h_3 q9 h9 g9)]; rfl), by rw [ht]; exact hP9, va_K.moved hW.alike hK9, hD9⟩, hS.F ht⟩) hS.2.2 dX1_hasStairAt_44
