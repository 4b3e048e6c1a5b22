set_option maxHeartbeats 4000000 in
set_option maxRecDepth 100000 in
theorem lp_s_reaches {p : Program} {l : Launch} {e : Env} {s : State} {m : MethodId} {args : Array Value} {below : List Frame} {meth : Method} {c : Code} {Q : State → Prop} {A : Nat → Prop} {D : va_G} (F : mFix p s m args c cX8_reachesSomeStair 4 RX8) (hA : ∀ q, s.heap.size ≤ q → A q) (h0 : Nat) (fa : Nat) (cu : Nat) (rv : Nat) (bt : Nat) (wy1 : Nat) (wy2 : Nat) (wy3 : Nat) (wy4 : Nat) (cu1 : Nat) (cu2 : Nat) (cu3 : Nat) (cu4 : Nat) (wc3 : ClassId) (s3 : Nat → Int32) (qd : Int32) (cr : Int32) (sc : Int32) (to : Int32) (bc : Nat) (ho : Int32) (fe : Int32) (bn : Nat) (sn : Nat) (hK : va_K D vwCl [(wc3, .int)] s)
    (kx_32 : (∃ s, s < sn ∧ ¬ s3 (bn * 4 + s) = (-1)) → ∀ (H : Heap) (locs : List Loc), va_P D vwCl [(h0, Sum.inr (7, [Value.ref wy1, Value.ref wy2, Value.int qd, Value.ref wy3, Value.ref wy4, Value.int cr])), (wy3, Sum.inl (wc3, 40, Sum.inl s3)), (fa, Sum.inr (3, [Value.ref cu, Value.ref rv, Value.ref bt, Value.int (nI bc), Value.int ho, Value.int fe])), (cu, Sum.inr (1, [Value.ref cu1, Value.ref cu2, Value.ref cu3, Value.ref cu4, Value.int sc, Value.int to]))] H → va_D A [(h0, Sum.inr (7, [Value.ref wy1, Value.ref wy2, Value.int qd, Value.ref wy3, Value.ref wy4, Value.int cr])), (wy3, Sum.inl (wc3, 40, Sum.inl s3)), (fa, Sum.inr (3, [Value.ref cu, Value.ref rv, Value.ref bt, Value.int (nI bc), Value.int ho, Value.int fe])), (cu, Sum.inr (1, [Value.ref cu1, Value.ref cu2, Value.ref cu3, Value.ref cu4, Value.int sc, Value.int to]))] → va_S A s.heap H locs → ∀ ls : Array Slot, lv_has ls 4 [] → W p l e ({ frames := 0, cells := 0, slots := 0, locals := 0 }) s m args below meth c H locs 0 0 Q (F0 m 32 ls []))
    (kx_40 : (∀ s, s < sn → s3 (bn * 4 + s) = (-1)) → ∀ (H : Heap) (locs : List Loc), va_P D vwCl [(h0, Sum.inr (7, [Value.ref wy1, Value.ref wy2, Value.int qd, Value.ref wy3, Value.ref wy4, Value.int cr])), (wy3, Sum.inl (wc3, 40, Sum.inl s3)), (fa, Sum.inr (3, [Value.ref cu, Value.ref rv, Value.ref bt, Value.int (nI bc), Value.int ho, Value.int fe])), (cu, Sum.inr (1, [Value.ref cu1, Value.ref cu2, Value.ref cu3, Value.ref cu4, Value.int sc, Value.int to]))] H → va_D A [(h0, Sum.inr (7, [Value.ref wy1, Value.ref wy2, Value.int qd, Value.ref wy3, Value.ref wy4, Value.int cr])), (wy3, Sum.inl (wc3, 40, Sum.inl s3)), (fa, Sum.inr (3, [Value.ref cu, Value.ref rv, Value.ref bt, Value.int (nI bc), Value.int ho, Value.int fe])), (cu, Sum.inr (1, [Value.ref cu1, Value.ref cu2, Value.ref cu3, Value.ref cu4, Value.int sc, Value.int to]))] → va_S A s.heap H locs → ∀ ls : Array Slot, lv_has ls 4 [] → W p l e ({ frames := 0, cells := 0, slots := 0, locals := 0 }) s m args below meth c H locs 0 0 Q (F0 m 40 ls [])) :
    ∀ n : Nat, ∀ (t : Nat), (t ≤ 4) → (bn < 10) → (sc = nI sn ∧ sn ≤ 4) → (t ≤ sn) → (∀ s, s < t → s3 (bn * 4 + s) = (-1)) → (4 - t) < n → ∀ (H : Heap) (locs : List Loc), va_P D vwCl [(h0, Sum.inr (7, [Value.ref wy1, Value.ref wy2, Value.int qd, Value.ref wy3, Value.ref wy4, Value.int cr])), (wy3, Sum.inl (wc3, 40, Sum.inl s3)), (fa, Sum.inr (3, [Value.ref cu, Value.ref rv, Value.ref bt, Value.int (nI bc), Value.int ho, Value.int fe])), (cu, Sum.inr (1, [Value.ref cu1, Value.ref cu2, Value.ref cu3, Value.ref cu4, Value.int sc, Value.int to]))] H → va_D A [(h0, Sum.inr (7, [Value.ref wy1, Value.ref wy2, Value.int qd, Value.ref wy3, Value.ref wy4, Value.int cr])), (wy3, Sum.inl (wc3, 40, Sum.inl s3)), (fa, Sum.inr (3, [Value.ref cu, Value.ref rv, Value.ref bt, Value.int (nI bc), Value.int ho, Value.int fe])), (cu, Sum.inr (1, [Value.ref cu1, Value.ref cu2, Value.ref cu3, Value.ref cu4, Value.int sc, Value.int to]))] → va_S A s.heap H locs → ∀ ls : Array Slot, lv_has ls 4 [(0, Value.ref h0), (1, Value.ref fa), (2, Value.int (nI bn)), (3, Value.int (nI t))] → W p l e ({ frames := 0, cells := 0, slots := 0, locals := 0 }) s m args below meth c H locs 0 0 Q (F0 m 2 ls []) := by
  intro n
  induction n with
  | zero => intro t ht hn9 hsc htn hrs hn; exact absurd hn (Nat.not_lt_zero _)
  | succ n ih =>
    intro t ht hn9 hsc htn hrs hn H locs hP hD hS ls hl
    obtain ⟨hx, hb, hml, hown, hts⟩ := id F
    refine lv_iload_n hx hb dX8_reachesSomeStair_2 rfl (lv_at hl 3 rfl) ?_
    refine lv_aload_n hx hb dX8_reachesSomeStair_3 rfl (lv_at hl 1 rfl) ?_
    refine va_get (D := D) (ci := 3) (v := Value.ref cu) (C := RX3) (T := TX3) (N := 6) hx hb hts inG_X3 hown hK hP 2 rfl rfl 0 (by decide) (hts _ kw_1_216) (fun _ h9 => h9) rfl dX8_reachesSomeStair_4 ?_
    refine va_get (D := D) (ci := 1) (v := Value.int sc) (C := RX1) (T := TX1) (N := 6) hx hb hts inG_X1 hown hK hP 3 rfl rfl 4 (by decide) (hts _ kw_1_107) (fun _ h9 => h9) rfl dX8_reachesSomeStair_7 ?_
    refine lv_icmp_ge (tgt := 40) hx hb dX8_reachesSomeStair_10 (by decide) (fun c_1 => ?_) (fun c_1 => ?_)
    · skip
      have c_1 := Int32.not_lt.mpr c_1
      have htn9 : sn ≤ t := nb_lt (by omega) (by omega) (by rw [← hsc.1]; exact c_1)
      exact kx_40  ((show t = sn by omega) ▸ hrs) H locs (hP.sub [0, 1, 2, 3] rfl) (hD.sub [0, 1, 2, 3] (by decide) rfl) hS ls (lv_sub hl [] rfl)
    · skip
      have c_1 := Int32.not_le.mp c_1
      have htn9 : t < sn := (nI_ltI (by omega) (by omega)).mp (by rw [← hsc.1]; exact c_1)
      refine lv_iload_n hx hb dX8_reachesSomeStair_13 rfl (lv_at hl 3 rfl) ?_
      refine lv_iconst (v := 4) hx hb dX8_reachesSomeStair_14 (by decide) ?_
      refine lv_icmp_ge (tgt := 40) hx hb dX8_reachesSomeStair_15 (by decide) (fun c_2 => ?_) (fun c_2 => ?_)
      · skip
        have c_2n : 4 ≤ t := (nI_leI (by omega) (by omega)).mp c_2
        have c_2 := Int32.not_lt.mpr c_2
        exact kx_40  ((show t = sn by omega) ▸ hrs) H locs (hP.sub [0, 1, 2, 3] rfl) (hD.sub [0, 1, 2, 3] (by decide) rfl) hS ls (lv_sub hl [] rfl)
      · skip
        have c_2n : t < 4 := nb_le (by omega) (by omega) c_2
        have c_2 := Int32.not_le.mp c_2
        refine lv_aload_n hx hb dX8_reachesSomeStair_18 rfl (lv_at hl 0 rfl) ?_
        refine va_get (D := D) (ci := 7) (v := Value.ref wy3) (C := RX8) (T := TX8) (N := 6) hx hb hts inG_X8 hown hK hP 0 rfl rfl 3 (by decide) (hts _ kw_2_51) (fun _ h9 => h9) rfl dX8_reachesSomeStair_19 ?_
        refine lv_iload_n hx hb dX8_reachesSomeStair_22 rfl (lv_at hl 2 rfl) ?_
        refine lv_iconst (v := 4) hx hb dX8_reachesSomeStair_23 (by decide) ?_
        refine lv_imul hx hb dX8_reachesSomeStair_24 ?_
        refine lv_topi (fun z_3 ez_3 => ?_)
        obtain rfl : z_3 = nI (bn * 4) := ez_3.trans (pk_mul bn 4)
        refine lv_iload_n hx hb dX8_reachesSomeStair_25 rfl (lv_at hl 3 rfl) ?_
        refine lv_iadd hx hb dX8_reachesSomeStair_26 ?_
        refine lv_topi (fun z_4 ez_4 => ?_)
        obtain rfl : z_4 = nI (bn * 4 + t) := ez_4.trans (nI_add (bn * 4) t)
        refine m_iald hx hb hK hP 1 0 rfl rfl (bn * 4 + t) rfl (by omega) (by decide) dX8_reachesSomeStair_27 ?_
        refine lv_topi (fun v_5 ev_5 => ?_)
        refine lv_iconst (v := -1) hx hb dX8_reachesSomeStair_28 (by decide) ?_
        refine lv_icmp_eq (tgt := 34) hx hb dX8_reachesSomeStair_29 (by decide) (fun c_6 => ?_) (fun c_6 => ?_)
        · skip
          refine lv_iinc (v := nI (t + 1)) (lv' := [(3, Value.int (nI (t + 1))), (0, Value.ref h0), (1, Value.ref fa), (2, Value.int (nI bn))]) hx hb dX8_reachesSomeStair_34 hl (k := 3) rfl (nI_add t 1) (by decide) rfl (fun ls hl => ?_)
          refine lv_goto (tgt := 2) hx hb dX8_reachesSomeStair_37 (by decide) ?_
          exact ih (t + 1) (by omega) (by omega) hsc (by omega) (fun s hs => by rcases (show s < t ∨ s = t by omega) with q | rfl; exact hrs s q; rw [← ev_5]; exact c_6) (by omega) H locs (hP.sub [0, 1, 2, 3] rfl) (hD.sub [0, 1, 2, 3] (by decide) rfl) hS ls (lv_sub hl [1, 2, 3, 0] rfl)
        · skip
          exact kx_32  (⟨t, by omega, fun q => c_6 (by rw [ev_5]; exact q)⟩) H locs (hP.sub [0, 1, 2, 3] rfl) (hD.sub [0, 1, 2, 3] (by decide) rfl) hS ls (lv_sub hl [] rfl)
set_option maxHeartbeats 4000000 in
set_option maxRecDepth 100000 in
theorem s_reaches (l : Launch) (D : va_G) (h0 : Nat) (fa : Nat) (cu : Nat) (rv : Nat) (bt : Nat) (wy1 : Nat) (wy2 : Nat) (wy3 : Nat) (wy4 : Nat) (cu1 : Nat) (cu2 : Nat) (cu3 : Nat) (cu4 : Nat) (wc3 : ClassId) (s3 : Nat → Int32) (qd : Int32) (cr : Int32) (sc : Int32) (to : Int32) (bc : Nat) (ho : Int32) (fe : Int32) (bn : Nat) (sn : Nat) (hn : bn < 10) (hsc : sc = nI sn ∧ sn ≤ 4) : cI l yX8_reachesSomeStair (.code yX8_reachesSomeStair cX8_reachesSomeStair 4 (some .boolean)) ({ frames := 0, cells := 0, slots := 0, locals := 0 }) D [(wc3, .int)] [(h0, Sum.inr (7, [Value.ref wy1, Value.ref wy2, Value.int qd, Value.ref wy3, Value.ref wy4, Value.int cr])), (wy3, Sum.inl (wc3, 40, Sum.inl s3)), (fa, Sum.inr (3, [Value.ref cu, Value.ref rv, Value.ref bt, Value.int (nI bc), Value.int ho, Value.int fe])), (cu, Sum.inr (1, [Value.ref cu1, Value.ref cu2, Value.ref cu3, Value.ref cu4, Value.int sc, Value.int to]))] xT [Value.ref h0, Value.ref fa, Value.int (nI bn)] (S := Unit) (fun r _ => (r = 1 ∧ ∃ s, s < sn ∧ ¬ s3 (bn * 4 + s) = (-1)) ∨ (r = 0 ∧ ∀ s, s < sn → s3 (bn * 4 + s) = (-1))) (fun _ => []) (fun _ => [(h0, Sum.inr (7, [Value.ref wy1, Value.ref wy2, Value.int qd, Value.ref wy3, Value.ref wy4, Value.int cr])), (wy3, Sum.inl (wc3, 40, Sum.inl s3)), (fa, Sum.inr (3, [Value.ref cu, Value.ref rv, Value.ref bt, Value.int (nI bc), Value.int ho, Value.int fe])), (cu, Sum.inr (1, [Value.ref cu1, Value.ref cu2, Value.ref cu3, Value.ref cu4, Value.int sc, Value.int to]))]) := by
  intro sz
  refine Met.ofW (cc := cX8_reachesSomeStair) (maxL := 4) (ret := (some .boolean)) (by decide) rfl ?_
  intro p e s m args below meth c s₁ B hml hv
  obtain ⟨rfl, hsz, hP, hK, hD0, hX⟩ := hv
  have hx := B.exec
  have hb := B.bytes
  have hr := B.returns
  have hts0 := atoms_spec (ws := .code yX8_reachesSomeStair cX8_reachesSomeStair 4 (some .boolean) :: gw) B.pre
  have hts := fun (w : Cond) (h : w ∈ gw) => hts0 w (List.mem_cons_of_mem _ h)
  have hown : s.vm.findClass RX8 = some m.cls := findClass_of_methodNamed B.named
  have hlocks := B.notSynchronized
  have F : mFix p s m _ c cX8_reachesSomeStair 4 RX8 := ⟨hx, hb, hml, hown, hts⟩
  subst hsz
  have hD := hD0.self (sz := s.heap.size)
  generalize hAe : va_A [(h0, Sum.inr (7, [Value.ref wy1, Value.ref wy2, Value.int qd, Value.ref wy3, Value.ref wy4, Value.int cr])), (wy3, Sum.inl (wc3, 40, Sum.inl s3)), (fa, Sum.inr (3, [Value.ref cu, Value.ref rv, Value.ref bt, Value.int (nI bc), Value.int ho, Value.int fe])), (cu, Sum.inr (1, [Value.ref cu1, Value.ref cu2, Value.ref cu3, Value.ref cu4, Value.int sc, Value.int to]))] s.heap.size = A at hD hX ⊢
  have hA : ∀ q : Nat, s.heap.size ≤ q → A q := fun q h => by rw [← hAe]; exact Or.inr h
  have hS : va_S A s.heap s.heap [] := va_S.rf
  have hl := lv_entry ([Value.ref h0, Value.ref fa, Value.int (nI bn)]) (n := 4) (Nat.le_of_ble_eq_true rfl)
  rw [lg_entry_eq]
  generalize (lg_sl ([Value.ref h0, Value.ref fa, Value.int (nI bn)]) ++ List.replicate (4 - (lg_sl ([Value.ref h0, Value.ref fa, Value.int (nI bn)])).length) Slot.unset).toArray = ls at hl ⊢
  have hl : lv_has ls 4 [(0, Value.ref h0), (1, Value.ref fa), (2, Value.int (nI bn))] := hl
  have hP : va_P D vwCl [(h0, Sum.inr (7, [Value.ref wy1, Value.ref wy2, Value.int qd, Value.ref wy3, Value.ref wy4, Value.int cr])), (wy3, Sum.inl (wc3, 40, Sum.inl s3)), (fa, Sum.inr (3, [Value.ref cu, Value.ref rv, Value.ref bt, Value.int (nI bc), Value.int ho, Value.int fe])), (cu, Sum.inr (1, [Value.ref cu1, Value.ref cu2, Value.ref cu3, Value.ref cu4, Value.int sc, Value.int to]))] s.heap := hP
  refine lv_iconst (v := 0) hx hb dX8_reachesSomeStair_0 (by decide) ?_
  refine lv_istore_n (lv' := [(3, Value.int 0), (0, Value.ref h0), (1, Value.ref fa), (2, Value.int (nI bn))]) hx hb dX8_reachesSomeStair_1 rfl hl (by decide) rfl (fun ls hl => ?_)
  refine lp_s_reaches F hA h0 fa cu rv bt wy1 wy2 wy3 wy4 cu1 cu2 cu3 cu4 wc3 s3 qd cr sc to bc ho fe bn sn (hK.sub [0] rfl) (fun  h_1 H locs hP hD hS ls hl => ?_) (fun  h_2 H locs hP hD hS ls hl => ?_) _ 0 (by omega) (by omega) hsc (Nat.zero_le _) (fun s q => absurd q (Nat.not_lt_zero s)) (Nat.lt_succ_self _) _ _ (hP.sub [0, 1, 2, 3] rfl) (hD.sub [0, 1, 2, 3] (by decide) rfl) hS ls (lv_sub hl [1, 2, 3, 0] rfl)
  · skip
    have h_1 : ∃ s, s < sn ∧ ¬ s3 (bn * 4 + s) = (-1) := h_1
    refine lv_iconst (v := 1) hx hb dX8_reachesSomeStair_32 (by decide) ?_
    have hP9 := hP.sub (ws' := [(h0, Sum.inr (7, [Value.ref wy1, Value.ref wy2, Value.int qd, Value.ref wy3, Value.ref wy4, Value.int cr])), (wy3, Sum.inl (wc3, 40, Sum.inl s3)), (fa, Sum.inr (3, [Value.ref cu, Value.ref rv, Value.ref bt, Value.int (nI bc), Value.int ho, Value.int fe])), (cu, Sum.inr (1, [Value.ref cu1, Value.ref cu2, Value.ref cu3, Value.ref cu4, Value.int sc, Value.int to]))]) [0, 1, 2, 3] rfl
    have hD9 := hD.sub (ws' := [(h0, Sum.inr (7, [Value.ref wy1, Value.ref wy2, Value.int qd, Value.ref wy3, Value.ref wy4, Value.int cr])), (wy3, Sum.inl (wc3, 40, Sum.inl s3)), (fa, Sum.inr (3, [Value.ref cu, Value.ref rv, Value.ref bt, Value.int (nI bc), Value.int ho, Value.int fe])), (cu, Sum.inr (1, [Value.ref cu1, Value.ref cu2, Value.ref cu3, Value.ref cu4, Value.int sc, Value.int to]))]) [0, 1, 2, 3] (by decide) rfl
    have hK9 := hK.sub (tys' := []) [] rfl
    refine W.widen (k := 0) (n := 0) (by decide) (by decide) ?_
    exact W.zret (v := 1) hx hb hr rfl (fun t ht hW => ⟨⟨1, (), rfl, Or.inl ⟨rfl, h_1⟩, by rw [ht]; exact hP9, va_K.moved hW.alike hK9, hD9⟩, hS.F ht⟩) hS.2.2 dX8_reachesSomeStair_33
  · skip
    have h_2 : ∀ s, s < sn → s3 (bn * 4 + s) = (-1) := h_2
    refine lv_iconst (v := 0) hx hb dX8_reachesSomeStair_40 (by decide) ?_
    have hP9 := hP.sub (ws' := [(h0, Sum.inr (7, [Value.ref wy1, Value.ref wy2, Value.int qd, Value.ref wy3, Value.ref wy4, Value.int cr])), (wy3, Sum.inl (wc3, 40, Sum.inl s3)), (fa, Sum.inr (3, [Value.ref cu, Value.ref rv, Value.ref bt, Value.int (nI bc), Value.int ho, Value.int fe])), (cu, Sum.inr (1, [Value.ref cu1, Value.ref cu2, Value.ref cu3, Value.ref cu4, Value.int sc, Value.int to]))]) [0, 1, 2, 3] rfl
    have hD9 := hD.sub (ws' := [(h0, Sum.inr (7, [Value.ref wy1, Value.ref wy2, Value.int qd, Value.ref wy3, Value.ref wy4, Value.int cr])), (wy3, Sum.inl (wc3, 40, Sum.inl s3)), (fa, Sum.inr (3, [Value.ref cu, Value.ref rv, Value.ref bt, Value.int (nI bc), Value.int ho, Value.int fe])), (cu, Sum.inr (1, [Value.ref cu1, Value.ref cu2, Value.ref cu3, Value.ref cu4, Value.int sc, Value.int to]))]) [0, 1, 2, 3] (by decide) rfl
    have hK9 := hK.sub (tys' := []) [] rfl
    refine W.widen (k := 0) (n := 0) (by decide) (by decide) ?_
    exact W.zret (v := 0) hx hb hr rfl (fun t ht hW => ⟨⟨0, (), rfl, Or.inr ⟨rfl, h_2⟩, by rw [ht]; exact hP9, va_K.moved hW.alike hK9, hD9⟩, hS.F ht⟩) hS.2.2 dX8_reachesSomeStair_41
set_option maxHeartbeats 4000000 in
set_option maxRecDepth 100000 in
theorem lp_s_stuck {p : Program} {l : Launch} {e : Env} {s : State} {m : MethodId} {args : Array Value} {below : List Frame} {meth : Method} {c : Code} {Q : State → Prop} {A : Nat → Prop} {D : va_G} (F : mFix p s m args c cX8_hasSomebodyStuck 3 RX8) (hA : ∀ q, s.heap.size ≤ q → A q) (h0 : Nat) (fa : Nat) (cu : Nat) (rv : Nat) (bt : Nat) (wy1 : Nat) (wy2 : Nat) (wy3 : Nat) (wy4 : Nat) (cu1 : Nat) (cu2 : Nat) (cu3 : Nat) (cu4 : Nat) (wc3 : ClassId) (s3 : Nat → Int32) (qd : Int32) (sc : Int32) (to : Int32) (bc : Nat) (ho : Int32) (fe : Int32) (c9 : Nat) (sn : Nat) (hK : va_K D vwCl [(wc3, .int)] s)
    (kx_37 : ((∃ b, b < bc ∧ c9.testBit b = true ∧ ∀ s, s < sn → s3 (b * 4 + s) = (-1))) → ∀ (H : Heap) (locs : List Loc), va_P D vwCl [(h0, Sum.inr (7, [Value.ref wy1, Value.ref wy2, Value.int qd, Value.ref wy3, Value.ref wy4, Value.int (nI c9)])), (wy3, Sum.inl (wc3, 40, Sum.inl s3)), (fa, Sum.inr (3, [Value.ref cu, Value.ref rv, Value.ref bt, Value.int (nI bc), Value.int ho, Value.int fe])), (cu, Sum.inr (1, [Value.ref cu1, Value.ref cu2, Value.ref cu3, Value.ref cu4, Value.int sc, Value.int to]))] H → va_D A [(h0, Sum.inr (7, [Value.ref wy1, Value.ref wy2, Value.int qd, Value.ref wy3, Value.ref wy4, Value.int (nI c9)])), (wy3, Sum.inl (wc3, 40, Sum.inl s3)), (fa, Sum.inr (3, [Value.ref cu, Value.ref rv, Value.ref bt, Value.int (nI bc), Value.int ho, Value.int fe])), (cu, Sum.inr (1, [Value.ref cu1, Value.ref cu2, Value.ref cu3, Value.ref cu4, Value.int sc, Value.int to]))] → va_S A s.heap H locs → ∀ ls : Array Slot, lv_has ls 3 [] → W p l e ({ frames := 1, cells := 0, slots := 0, locals := 23 }) s m args below meth c H locs 0 0 Q (F0 m 37 ls []))
    (kx_45 : (∀ b, b < bc → c9.testBit b = true → ∃ s, s < sn ∧ ¬ s3 (b * 4 + s) = (-1)) → ∀ (H : Heap) (locs : List Loc), va_P D vwCl [(h0, Sum.inr (7, [Value.ref wy1, Value.ref wy2, Value.int qd, Value.ref wy3, Value.ref wy4, Value.int (nI c9)])), (wy3, Sum.inl (wc3, 40, Sum.inl s3)), (fa, Sum.inr (3, [Value.ref cu, Value.ref rv, Value.ref bt, Value.int (nI bc), Value.int ho, Value.int fe])), (cu, Sum.inr (1, [Value.ref cu1, Value.ref cu2, Value.ref cu3, Value.ref cu4, Value.int sc, Value.int to]))] H → va_D A [(h0, Sum.inr (7, [Value.ref wy1, Value.ref wy2, Value.int qd, Value.ref wy3, Value.ref wy4, Value.int (nI c9)])), (wy3, Sum.inl (wc3, 40, Sum.inl s3)), (fa, Sum.inr (3, [Value.ref cu, Value.ref rv, Value.ref bt, Value.int (nI bc), Value.int ho, Value.int fe])), (cu, Sum.inr (1, [Value.ref cu1, Value.ref cu2, Value.ref cu3, Value.ref cu4, Value.int sc, Value.int to]))] → va_S A s.heap H locs → ∀ ls : Array Slot, lv_has ls 3 [] → W p l e ({ frames := 1, cells := 0, slots := 0, locals := 23 }) s m args below meth c H locs 0 0 Q (F0 m 45 ls [])) :
    ∀ n : Nat, ∀ (i : Nat), (i ≤ bc) → (bc ≤ 10) → (sc = nI sn ∧ sn ≤ 4) → (c9 < 1024) → (∀ b, b < i → c9.testBit b = true → ∃ s, s < sn ∧ ¬ s3 (b * 4 + s) = (-1)) → (bc - i) < n → ∀ (H : Heap) (locs : List Loc), va_P D vwCl [(h0, Sum.inr (7, [Value.ref wy1, Value.ref wy2, Value.int qd, Value.ref wy3, Value.ref wy4, Value.int (nI c9)])), (wy3, Sum.inl (wc3, 40, Sum.inl s3)), (fa, Sum.inr (3, [Value.ref cu, Value.ref rv, Value.ref bt, Value.int (nI bc), Value.int ho, Value.int fe])), (cu, Sum.inr (1, [Value.ref cu1, Value.ref cu2, Value.ref cu3, Value.ref cu4, Value.int sc, Value.int to]))] H → va_D A [(h0, Sum.inr (7, [Value.ref wy1, Value.ref wy2, Value.int qd, Value.ref wy3, Value.ref wy4, Value.int (nI c9)])), (wy3, Sum.inl (wc3, 40, Sum.inl s3)), (fa, Sum.inr (3, [Value.ref cu, Value.ref rv, Value.ref bt, Value.int (nI bc), Value.int ho, Value.int fe])), (cu, Sum.inr (1, [Value.ref cu1, Value.ref cu2, Value.ref cu3, Value.ref cu4, Value.int sc, Value.int to]))] → va_S A s.heap H locs → ∀ ls : Array Slot, lv_has ls 3 [(0, Value.ref h0), (1, Value.ref fa), (2, Value.int (nI i))] → W p l e ({ frames := 1, cells := 0, slots := 0, locals := 23 }) s m args below meth c H locs 0 0 Q (F0 m 2 ls []) := by
  intro n
  induction n with
  | zero => intro i hi hbc hsc hc9 hnk hn; exact absurd hn (Nat.not_lt_zero _)
  | succ n ih =>
    intro i hi hbc hsc hc9 hnk hn H locs hP hD hS ls hl
    obtain ⟨hx, hb, hml, hown, hts⟩ := id F
    refine lv_iload_n hx hb dX8_hasSomebodyStuck_2 rfl (lv_at hl 2 rfl) ?_
    refine lv_aload_n hx hb dX8_hasSomebodyStuck_3 rfl (lv_at hl 1 rfl) ?_
    refine va_get (D := D) (ci := 3) (v := Value.int (nI bc)) (C := RX3) (T := TX3) (N := 6) hx hb hts inG_X3 hown hK hP 2 rfl rfl 3 (by decide) (hts _ kw_1_228) (fun _ h9 => h9) rfl dX8_hasSomebodyStuck_4 ?_
    refine lv_icmp_ge (tgt := 45) hx hb dX8_hasSomebodyStuck_7 (by decide) (fun c_1 => ?_) (fun c_1 => ?_)
    · skip
      have c_1n : bc ≤ i := (nI_leI (by omega) (by omega)).mp c_1
      have c_1 := Int32.not_lt.mpr c_1
      exact kx_45  (fun b q => hnk b (by omega)) H locs (hP.sub [0, 1, 2, 3] rfl) (hD.sub [0, 1, 2, 3] (by decide) rfl) hS ls (lv_sub hl [] rfl)
    · skip
      have c_1n : i < bc := nb_le (by omega) (by omega) c_1
      have c_1 := Int32.not_le.mp c_1
      refine lv_iload_n hx hb dX8_hasSomebodyStuck_10 rfl (lv_at hl 2 rfl) ?_
      refine lv_bipush (v := 10) hx hb dX8_hasSomebodyStuck_11 (by decide) ?_
      refine lv_icmp_ge (tgt := 45) hx hb dX8_hasSomebodyStuck_13 (by decide) (fun c_2 => ?_) (fun c_2 => ?_)
      · skip
        have c_2n : 10 ≤ i := (nI_leI (by omega) (by omega)).mp c_2
        have c_2 := Int32.not_lt.mpr c_2
        exact kx_45  (fun b q => hnk b (by omega)) H locs (hP.sub [0, 1, 2, 3] rfl) (hD.sub [0, 1, 2, 3] (by decide) rfl) hS ls (lv_sub hl [] rfl)
      · skip
        have c_2n : i < 10 := nb_le (by omega) (by omega) c_2
        have c_2 := Int32.not_le.mp c_2
        refine lv_aload_n hx hb dX8_hasSomebodyStuck_16 rfl (lv_at hl 0 rfl) ?_
        refine va_get (D := D) (ci := 7) (v := Value.int (nI c9)) (C := RX8) (T := TX8) (N := 6) hx hb hts inG_X8 hown hK hP 0 rfl rfl 5 (by decide) (hts _ kw_2_53) (fun _ h9 => h9) rfl dX8_hasSomebodyStuck_17 ?_
        refine lv_iload_n hx hb dX8_hasSomebodyStuck_20 rfl (lv_at hl 2 rfl) ?_
        refine lv_ishr hx hb dX8_hasSomebodyStuck_21 ?_
        refine lv_topi (fun z_3 ez_3 => ?_)
        refine lv_iconst (v := 1) hx hb dX8_hasSomebodyStuck_22 (by decide) ?_
        refine lv_iand hx hb dX8_hasSomebodyStuck_23 ?_
        refine lv_topi (fun z_4 ez_4 => ?_)
        refine lv_iconst (v := 1) hx hb dX8_hasSomebodyStuck_24 (by decide) ?_
        refine lv_icmp_ne (tgt := 39) hx hb dX8_hasSomebodyStuck_25 (by decide) (fun c_5 => ?_) (fun c_5 => ?_)
        · skip
          have hbt : ¬ c9.testBit i = true := fun q => c_5 (by rw [ez_4, ez_3]; exact (sh_bit i (by omega) c9 (by omega)).mpr q)
          refine lv_iinc (v := nI (i + 1)) (lv' := [(2, Value.int (nI (i + 1))), (0, Value.ref h0), (1, Value.ref fa)]) hx hb dX8_hasSomebodyStuck_39 hl (k := 2) rfl (nI_add i 1) (by decide) rfl (fun ls hl => ?_)
          refine lv_goto (tgt := 2) hx hb dX8_hasSomebodyStuck_42 (by decide) ?_
          exact ih (i + 1) (by omega) (by omega) hsc (by omega) (fun b q1 q2 => by rcases (show b < i ∨ b = i by omega) with q | rfl; exact hnk b q q2; exact absurd q2 hbt) (by omega) H locs (hP.sub [0, 1, 2, 3] rfl) (hD.sub [0, 1, 2, 3] (by decide) rfl) hS ls (lv_sub hl [1, 2, 0] rfl)
        · skip
          have hbt : c9.testBit i = true := (sh_bit i (by omega) c9 (by omega)).mp (by rw [← ez_3, ← ez_4]; exact c_5)
          refine lv_aload_n hx hb dX8_hasSomebodyStuck_28 rfl (lv_at hl 0 rfl) ?_
          refine lv_aload_n hx hb dX8_hasSomebodyStuck_29 rfl (lv_at hl 1 rfl) ?_
          refine lv_iload_n hx hb dX8_hasSomebodyStuck_30 rfl (lv_at hl 2 rfl) ?_
          refine mc_Vi (rest := []) (wr := []) F hK hP hD hS hA (s_reaches l D h0 fa cu rv bt wy1 wy2 wy3 wy4 cu1 cu2 cu3 cu4 wc3 s3 qd (nI c9) sc to bc ho fe i sn (by omega) hsc) ⟨gk_X8_98.1, gk_X8_98.2, Nat.le_of_ble_eq_true rfl, Nat.le_of_ble_eq_true rfl⟩ [0, 1, 2, 3] [] [0] ⟨rfl, rfl, rfl, rfl, by decide⟩ rfl xT_move (fun _ _ _ => trivial) 0 rfl rfl rfl hl.1 rfl (Nat.le_of_ble_eq_true rfl) dX8_hasSomebodyStuck_31 ⟨Nat.le_of_ble_eq_true rfl, Nat.le_of_ble_eq_true rfl⟩ (fun r_6 _ H locs hw hK1 hP hD hS => ?_)
          have hP : va_P D vwCl [(h0, Sum.inr (7, [Value.ref wy1, Value.ref wy2, Value.int qd, Value.ref wy3, Value.ref wy4, Value.int (nI c9)])), (wy3, Sum.inl (wc3, 40, Sum.inl s3)), (fa, Sum.inr (3, [Value.ref cu, Value.ref rv, Value.ref bt, Value.int (nI bc), Value.int ho, Value.int fe])), (cu, Sum.inr (1, [Value.ref cu1, Value.ref cu2, Value.ref cu3, Value.ref cu4, Value.int sc, Value.int to]))] H := hP
          have hD : va_D A [(h0, Sum.inr (7, [Value.ref wy1, Value.ref wy2, Value.int qd, Value.ref wy3, Value.ref wy4, Value.int (nI c9)])), (wy3, Sum.inl (wc3, 40, Sum.inl s3)), (fa, Sum.inr (3, [Value.ref cu, Value.ref rv, Value.ref bt, Value.int (nI bc), Value.int ho, Value.int fe])), (cu, Sum.inr (1, [Value.ref cu1, Value.ref cu2, Value.ref cu3, Value.ref cu4, Value.int sc, Value.int to]))] := hD
          have hw_7 : (r_6 = 1 ∧ ∃ s, s < sn ∧ ¬ s3 (i * 4 + s) = (-1)) ∨ (r_6 = 0 ∧ ∀ s, s < sn → s3 (i * 4 + s) = (-1)) := hw
          rcases hw_7 with ⟨hr9, hre⟩ | ⟨hr9, hre⟩
          · skip
            subst hr9
            refine lv_if_ne (tgt := 39) hx hb dX8_hasSomebodyStuck_34 (by decide) (fun c_8 => ?_) (fun c_8 => absurd c_8 (by decide))
            refine lv_iinc (v := nI (i + 1)) (lv' := [(2, Value.int (nI (i + 1))), (0, Value.ref h0), (1, Value.ref fa)]) hx hb dX8_hasSomebodyStuck_39 hl (k := 2) rfl (nI_add i 1) (by decide) rfl (fun ls hl => ?_)
            refine lv_goto (tgt := 2) hx hb dX8_hasSomebodyStuck_42 (by decide) ?_
            exact ih (i + 1) (by omega) (by omega) hsc (by omega) (fun b q1 q2 => by rcases (show b < i ∨ b = i by omega) with q | rfl; exact hnk b q q2; exact hre) (by omega) H locs (hP.sub [0, 1, 2, 3] rfl) (hD.sub [0, 1, 2, 3] (by decide) rfl) hS ls (lv_sub hl [1, 2, 0] rfl)
          · skip
            subst hr9
            refine lv_if_ne (tgt := 39) hx hb dX8_hasSomebodyStuck_34 (by decide) (fun c_9 => absurd c_9 (by decide)) (fun c_9 => ?_)
            exact kx_37  (⟨i, by omega, hbt, hre⟩) H locs (hP.sub [0, 1, 2, 3] rfl) (hD.sub [0, 1, 2, 3] (by decide) rfl) hS ls (lv_sub hl [] rfl)
set_option maxHeartbeats 4000000 in
set_option maxRecDepth 100000 in
theorem s_stuck (l : Launch) (D : va_G) (h0 : Nat) (fa : Nat) (cu : Nat) (rv : Nat) (bt : Nat) (wy1 : Nat) (wy2 : Nat) (wy3 : Nat) (wy4 : Nat) (cu1 : Nat) (cu2 : Nat) (cu3 : Nat) (cu4 : Nat) (wc3 : ClassId) (s3 : Nat → Int32) (qd : Int32) (sc : Int32) (to : Int32) (bc : Nat) (ho : Int32) (fe : Int32) (c9 : Nat) (sn : Nat) (hbc : bc ≤ 10) (hsc : sc = nI sn ∧ sn ≤ 4) (hc9 : c9 < 1024) : cI l yX8_hasSomebodyStuck (.code yX8_hasSomebodyStuck cX8_hasSomebodyStuck 3 (some .boolean)) ({ frames := 1, cells := 0, slots := 0, locals := 23 }) D [(wc3, .int)] [(h0, Sum.inr (7, [Value.ref wy1, Value.ref wy2, Value.int qd, Value.ref wy3, Value.ref wy4, Value.int (nI c9)])), (wy3, Sum.inl (wc3, 40, Sum.inl s3)), (fa, Sum.inr (3, [Value.ref cu, Value.ref rv, Value.ref bt, Value.int (nI bc), Value.int ho, Value.int fe])), (cu, Sum.inr (1, [Value.ref cu1, Value.ref cu2, Value.ref cu3, Value.ref cu4, Value.int sc, Value.int to]))] xT [Value.ref h0, Value.ref fa] (S := Unit) (fun r _ => (r = 1 ∧ (∃ b, b < bc ∧ c9.testBit b = true ∧ ∀ s, s < sn → s3 (b * 4 + s) = (-1))) ∨ (r = 0 ∧ ¬ (∃ b, b < bc ∧ c9.testBit b = true ∧ ∀ s, s < sn → s3 (b * 4 + s) = (-1)))) (fun _ => []) (fun _ => [(h0, Sum.inr (7, [Value.ref wy1, Value.ref wy2, Value.int qd, Value.ref wy3, Value.ref wy4, Value.int (nI c9)])), (wy3, Sum.inl (wc3, 40, Sum.inl s3)), (fa, Sum.inr (3, [Value.ref cu, Value.ref rv, Value.ref bt, Value.int (nI bc), Value.int ho, Value.int fe])), (cu, Sum.inr (1, [Value.ref cu1, Value.ref cu2, Value.ref cu3, Value.ref cu4, Value.int sc, Value.int to]))]) := by
  intro sz
  refine Met.ofW (cc := cX8_hasSomebodyStuck) (maxL := 3) (ret := (some .boolean)) (by decide) rfl ?_
  intro p e s m args below meth c s₁ B hml hv
  obtain ⟨rfl, hsz, hP, hK, hD0, hX⟩ := hv
  have hx := B.exec
  have hb := B.bytes
  have hr := B.returns
  have hts0 := atoms_spec (ws := .code yX8_hasSomebodyStuck cX8_hasSomebodyStuck 3 (some .boolean) :: gw) B.pre
  have hts := fun (w : Cond) (h : w ∈ gw) => hts0 w (List.mem_cons_of_mem _ h)
  have hown : s.vm.findClass RX8 = some m.cls := findClass_of_methodNamed B.named
  have hlocks := B.notSynchronized
  have F : mFix p s m _ c cX8_hasSomebodyStuck 3 RX8 := ⟨hx, hb, hml, hown, hts⟩
  subst hsz
  have hD := hD0.self (sz := s.heap.size)
  generalize hAe : va_A [(h0, Sum.inr (7, [Value.ref wy1, Value.ref wy2, Value.int qd, Value.ref wy3, Value.ref wy4, Value.int (nI c9)])), (wy3, Sum.inl (wc3, 40, Sum.inl s3)), (fa, Sum.inr (3, [Value.ref cu, Value.ref rv, Value.ref bt, Value.int (nI bc), Value.int ho, Value.int fe])), (cu, Sum.inr (1, [Value.ref cu1, Value.ref cu2, Value.ref cu3, Value.ref cu4, Value.int sc, Value.int to]))] s.heap.size = A at hD hX ⊢
  have hA : ∀ q : Nat, s.heap.size ≤ q → A q := fun q h => by rw [← hAe]; exact Or.inr h
  have hS : va_S A s.heap s.heap [] := va_S.rf
  have hl := lv_entry ([Value.ref h0, Value.ref fa]) (n := 3) (Nat.le_of_ble_eq_true rfl)
  rw [lg_entry_eq]
  generalize (lg_sl ([Value.ref h0, Value.ref fa]) ++ List.replicate (3 - (lg_sl ([Value.ref h0, Value.ref fa])).length) Slot.unset).toArray = ls at hl ⊢
  have hl : lv_has ls 3 [(0, Value.ref h0), (1, Value.ref fa)] := hl
  have hP : va_P D vwCl [(h0, Sum.inr (7, [Value.ref wy1, Value.ref wy2, Value.int qd, Value.ref wy3, Value.ref wy4, Value.int (nI c9)])), (wy3, Sum.inl (wc3, 40, Sum.inl s3)), (fa, Sum.inr (3, [Value.ref cu, Value.ref rv, Value.ref bt, Value.int (nI bc), Value.int ho, Value.int fe])), (cu, Sum.inr (1, [Value.ref cu1, Value.ref cu2, Value.ref cu3, Value.ref cu4, Value.int sc, Value.int to]))] s.heap := hP
  refine lv_iconst (v := 0) hx hb dX8_hasSomebodyStuck_0 (by decide) ?_
  refine lv_istore_n (lv' := [(2, Value.int 0), (0, Value.ref h0), (1, Value.ref fa)]) hx hb dX8_hasSomebodyStuck_1 rfl hl (by decide) rfl (fun ls hl => ?_)
  refine lp_s_stuck F hA h0 fa cu rv bt wy1 wy2 wy3 wy4 cu1 cu2 cu3 cu4 wc3 s3 qd sc to bc ho fe c9 sn (hK.sub [0] rfl) (fun  h_1 H locs hP hD hS ls hl => ?_) (fun  h_2 H locs hP hD hS ls hl => ?_) _ 0 (by omega) (by omega) hsc (by omega) (fun b q => absurd q (Nat.not_lt_zero b)) (Nat.lt_succ_self _) _ _ (hP.sub [0, 1, 2, 3] rfl) (hD.sub [0, 1, 2, 3] (by decide) rfl) hS ls (lv_sub hl [1, 2, 0] rfl)
  · skip
    have h_1 : (∃ b, b < bc ∧ c9.testBit b = true ∧ ∀ s, s < sn → s3 (b * 4 + s) = (-1)) := h_1
    refine lv_iconst (v := 1) hx hb dX8_hasSomebodyStuck_37 (by decide) ?_
    have hP9 := hP.sub (ws' := [(h0, Sum.inr (7, [Value.ref wy1, Value.ref wy2, Value.int qd, Value.ref wy3, Value.ref wy4, Value.int (nI c9)])), (wy3, Sum.inl (wc3, 40, Sum.inl s3)), (fa, Sum.inr (3, [Value.ref cu, Value.ref rv, Value.ref bt, Value.int (nI bc), Value.int ho, Value.int fe])), (cu, Sum.inr (1, [Value.ref cu1, Value.ref cu2, Value.ref cu3, Value.ref cu4, Value.int sc, Value.int to]))]) [0, 1, 2, 3] rfl
    have hD9 := hD.sub (ws' := [(h0, Sum.inr (7, [Value.ref wy1, Value.ref wy2, Value.int qd, Value.ref wy3, Value.ref wy4, Value.int (nI c9)])), (wy3, Sum.inl (wc3, 40, Sum.inl s3)), (fa, Sum.inr (3, [Value.ref cu, Value.ref rv, Value.ref bt, Value.int (nI bc), Value.int ho, Value.int fe])), (cu, Sum.inr (1, [Value.ref cu1, Value.ref cu2, Value.ref cu3, Value.ref cu4, Value.int sc, Value.int to]))]) [0, 1, 2, 3] (by decide) rfl
    have hK9 := hK.sub (tys' := []) [] rfl
    refine W.widen (k := 0) (n := 0) (by decide) (by decide) ?_
    exact W.zret (v := 1) hx hb hr rfl (fun t ht hW => ⟨⟨1, (), rfl, Or.inl ⟨rfl, h_1⟩, by rw [ht]; exact hP9, va_K.moved hW.alike hK9, hD9⟩, hS.F ht⟩) hS.2.2 dX8_hasSomebodyStuck_38
  · skip
    have h_2 : ∀ b, b < bc → c9.testBit b = true → ∃ s, s < sn ∧ ¬ s3 (b * 4 + s) = (-1) := h_2
    refine lv_iconst (v := 0) hx hb dX8_hasSomebodyStuck_45 (by decide) ?_
    have hP9 := hP.sub (ws' := [(h0, Sum.inr (7, [Value.ref wy1, Value.ref wy2, Value.int qd, Value.ref wy3, Value.ref wy4, Value.int (nI c9)])), (wy3, Sum.inl (wc3, 40, Sum.inl s3)), (fa, Sum.inr (3, [Value.ref cu, Value.ref rv, Value.ref bt, Value.int (nI bc), Value.int ho, Value.int fe])), (cu, Sum.inr (1, [Value.ref cu1, Value.ref cu2, Value.ref cu3, Value.ref cu4, Value.int sc, Value.int to]))]) [0, 1, 2, 3] rfl
    have hD9 := hD.sub (ws' := [(h0, Sum.inr (7, [Value.ref wy1, Value.ref wy2, Value.int qd, Value.ref wy3, Value.ref wy4, Value.int (nI c9)])), (wy3, Sum.inl (wc3, 40, Sum.inl s3)), (fa, Sum.inr (3, [Value.ref cu, Value.ref rv, Value.ref bt, Value.int (nI bc), Value.int ho, Value.int fe])), (cu, Sum.inr (1, [Value.ref cu1, Value.ref cu2, Value.ref cu3, Value.ref cu4, Value.int sc, Value.int to]))]) [0, 1, 2, 3] (by decide) rfl
    have hK9 := hK.sub (tys' := []) [] rfl
    refine W.widen (k := 0) (n := 0) (by decide) (by decide) ?_
    exact W.zret (v := 0) hx hb hr rfl (fun t ht hW => ⟨⟨0, (), rfl, Or.inr ⟨rfl, fun q => by obtain ⟨b9, q1, q2, q3⟩ := q; obtain ⟨s9, q4, q5⟩ := h_2 b9 q1 q2; exact q5 (q3 s9 q4)⟩, by rw [ht]; exact hP9, va_K.moved hW.alike hK9, hD9⟩, hS.F ht⟩) hS.2.2 dX8_hasSomebodyStuck_46
