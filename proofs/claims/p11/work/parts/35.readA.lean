set_option maxHeartbeats 4000000 in
set_option maxRecDepth 100000 in
theorem c_refuse (l : Launch) (D : va_G) (h0 : Nat) (va : Nat) (tx : Nat) (fk : Int32) (fp : Int32) (ln : Int32) (nx : Int32) (tk : Int32) (st : Int32) (vl : Int32) (x : Int32) (y : Int32) : cI l yX2_refuse (.code yX2_refuse cX2_refuse 3 (some .boolean)) ({ frames := 0, cells := 0, slots := 0, locals := 0 }) D [] [(h0, Sum.inr (2, [Value.int fk, Value.int fp, Value.ref va, Value.ref tx, Value.int ln, Value.int nx, Value.int tk, Value.int st, Value.int vl]))] xT [Value.ref h0, Value.int x, Value.int y] (S := Unit) (fun r _ => r = 0) (fun _ => []) (fun _ => [(h0, Sum.inr (2, [Value.int x, Value.int y, Value.ref va, Value.ref tx, Value.int ln, Value.int nx, Value.int tk, Value.int st, Value.int vl]))]) := by
  intro sz
  refine Met.ofW (cc := cX2_refuse) (maxL := 3) (ret := (some .boolean)) (by decide) rfl ?_
  intro p e s m args below meth c s₁ B hml hv
  obtain ⟨rfl, hsz, hP, hK, hD0, hX⟩ := hv
  have hx := B.exec
  have hb := B.bytes
  have hr := B.returns
  have hts0 := atoms_spec (ws := .code yX2_refuse cX2_refuse 3 (some .boolean) :: gw) B.pre
  have hts := fun (w : Cond) (h : w ∈ gw) => hts0 w (List.mem_cons_of_mem _ h)
  have hown : s.vm.findClass RX2 = some m.cls := findClass_of_methodNamed B.named
  have hlocks := B.notSynchronized
  have F : mFix p s m _ c cX2_refuse 3 RX2 := ⟨hx, hb, hml, hown, hts⟩
  subst hsz
  have hD := hD0.self (sz := s.heap.size)
  generalize hAe : va_A [(h0, Sum.inr (2, [Value.int fk, Value.int fp, Value.ref va, Value.ref tx, Value.int ln, Value.int nx, Value.int tk, Value.int st, Value.int vl]))] s.heap.size = A at hD hX ⊢
  have hA : ∀ q : Nat, s.heap.size ≤ q → A q := fun q h => by rw [← hAe]; exact Or.inr h
  have hS : va_S A s.heap s.heap [] := va_S.rf
  have hl := lv_entry ([Value.ref h0, Value.int x, Value.int y]) (n := 3) (Nat.le_of_ble_eq_true rfl)
  rw [lg_entry_eq]
  generalize (lg_sl ([Value.ref h0, Value.int x, Value.int y]) ++ List.replicate (3 - (lg_sl ([Value.ref h0, Value.int x, Value.int y])).length) Slot.unset).toArray = ls at hl ⊢
  have hl : lv_has ls 3 [(0, Value.ref h0), (1, Value.int x), (2, Value.int y)] := hl
  have hP : va_P D vwCl [(h0, Sum.inr (2, [Value.int fk, Value.int fp, Value.ref va, Value.ref tx, Value.int ln, Value.int nx, Value.int tk, Value.int st, Value.int vl]))] s.heap := hP
  refine lv_aload_n hx hb dX2_refuse_0 rfl (lv_at hl 0 rfl) ?_
  refine lv_iload_n hx hb dX2_refuse_1 rfl (lv_at hl 1 rfl) ?_
  refine va_put (D := D) (ci := 2) (v := Value.int x) (ty := .int) (C := RX2) (T := TX2) (N := 9) hx hb hts inG_X2 tyX2 tyX2_ok nmX2 hown hK hP hD hS 0 rfl rfl 0 (by decide) (hts _ kw_1_54) (fun _ h9 => h9) rfl (by decide +kernel) rfl rfl (Nat.le_of_ble_eq_true rfl) dX2_refuse_2 (fun H locs hP hD hS => ?_)
  have hP : va_P D vwCl [(h0, Sum.inr (2, [Value.int x, Value.int fp, Value.ref va, Value.ref tx, Value.int ln, Value.int nx, Value.int tk, Value.int st, Value.int vl]))] H := hP
  have hD : va_D A [(h0, Sum.inr (2, [Value.int x, Value.int fp, Value.ref va, Value.ref tx, Value.int ln, Value.int nx, Value.int tk, Value.int st, Value.int vl]))] := hD
  refine lv_aload_n hx hb dX2_refuse_5 rfl (lv_at hl 0 rfl) ?_
  refine lv_iload_n hx hb dX2_refuse_6 rfl (lv_at hl 2 rfl) ?_
  refine va_put (D := D) (ci := 2) (v := Value.int y) (ty := .int) (C := RX2) (T := TX2) (N := 9) hx hb hts inG_X2 tyX2 tyX2_ok nmX2 hown hK hP hD hS 0 rfl rfl 1 (by decide) (hts _ kw_1_56) (fun _ h9 => h9) rfl (by decide +kernel) rfl rfl (Nat.le_of_ble_eq_true rfl) dX2_refuse_7 (fun H locs hP hD hS => ?_)
  have hP : va_P D vwCl [(h0, Sum.inr (2, [Value.int x, Value.int y, Value.ref va, Value.ref tx, Value.int ln, Value.int nx, Value.int tk, Value.int st, Value.int vl]))] H := hP
  have hD : va_D A [(h0, Sum.inr (2, [Value.int x, Value.int y, Value.ref va, Value.ref tx, Value.int ln, Value.int nx, Value.int tk, Value.int st, Value.int vl]))] := hD
  refine lv_iconst (v := 0) hx hb dX2_refuse_10 (by decide) ?_
  have hP9 := hP.sub (ws' := [(h0, Sum.inr (2, [Value.int x, Value.int y, Value.ref va, Value.ref tx, Value.int ln, Value.int nx, Value.int tk, Value.int st, Value.int vl]))]) [0] rfl
  have hD9 := hD.sub (ws' := [(h0, Sum.inr (2, [Value.int x, Value.int y, Value.ref va, Value.ref tx, Value.int ln, Value.int nx, Value.int tk, Value.int st, Value.int vl]))]) [0] (by decide) rfl
  have hK9 := hK.sub (tys' := []) [] rfl
  refine W.widen (k := 0) (n := 0) (by decide) (by decide) ?_
  exact W.zret (v := 0) hx hb hr rfl (fun t ht hW => ⟨⟨0, (), rfl, rfl, by rw [ht]; exact hP9, va_K.moved hW.alike hK9, hD9⟩, hS.F ht⟩) hS.2.2 dX2_refuse_11