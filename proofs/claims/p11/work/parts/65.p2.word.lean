set_option maxHeartbeats 4000000 in
set_option maxRecDepth 100000 in
theorem p_charAt1 (l : Launch) (D : va_G) (t0 : Nat) (f9 : Nat → Int32) (j : Nat) (n9 : Nat) (hk : j < n9) (hn9 : n9 < 2 ^ 31) : cI l yJ1_charAt_3b067 (.code yJ1_charAt_3b067 cJ1_charAt_3b067 2 (some .char)) ({ frames := 3, cells := 0, slots := 0, locals := 103 }) D [] [] (xB t0 n9 (fun j => .int (f9 j))) [Value.ref t0, Value.int (nI j)] (S := Unit) (fun r _ => r = ((f9 j &&& 255).toUInt32 % 65536).toInt32) (fun _ => []) (fun _ => []) := by
  intro sz
  refine Met.ofW (cc := cJ1_charAt_3b067) (maxL := 2) (ret := (some .char)) (by decide) rfl ?_
  intro p e s m args below meth c s₁ B hml hv
  obtain ⟨rfl, hsz, hP, hK, hD0, hX⟩ := hv
  have hx := B.exec
  have hb := B.bytes
  have hr := B.returns
  have hts0 := atoms_spec (ws := .code yJ1_charAt_3b067 cJ1_charAt_3b067 2 (some .char) :: gw) B.pre
  have hts := fun (w : Cond) (h : w ∈ gw) => hts0 w (List.mem_cons_of_mem _ h)
  have hown : s.vm.findClass RJ1 = some m.cls := findClass_of_methodNamed B.named
  have hlocks := B.notSynchronized
  have F : mFix p s m _ c cJ1_charAt_3b067 2 RJ1 := ⟨hx, hb, hml, hown, hts⟩
  subst hsz
  have hD := hD0.self (sz := s.heap.size)
  generalize hAe : va_A [] s.heap.size = A at hD hX ⊢
  have hA : ∀ q : Nat, s.heap.size ≤ q → A q := fun q h => by rw [← hAe]; exact Or.inr h
  have hS : va_S A s.heap s.heap [] := va_S.rf
  have hl := lv_entry ([Value.ref t0, Value.int (nI j)]) (n := 2) (Nat.le_of_ble_eq_true rfl)
  rw [lg_entry_eq]
  generalize (lg_sl ([Value.ref t0, Value.int (nI j)]) ++ List.replicate (2 - (lg_sl ([Value.ref t0, Value.int (nI j)])).length) Slot.unset).toArray = ls at hl ⊢
  have hl : lv_has ls 2 [(0, Value.ref t0), (1, Value.int (nI j))] := hl
  have hP : va_P D vwCl [] s.heap := hP
  refine lv_iload_n hx hb dJ1_charAt_3b067_0 rfl (lv_at hl 1 rfl) ?_
  refine lv_aload_n hx hb dJ1_charAt_3b067_1 rfl (lv_at hl 0 rfl) ?_
  refine va_tlen hx hb hX.1 hS (v := nI n9) rfl dJ1_charAt_3b067_2 ?_
  refine mc_Zv (rest := []) (wr := []) F hK hP hD hS hA (c_chk l D j n9 (by omega) (by omega)) ⟨gk_J1_9.1, gk_J1_9.2, Nat.le_of_ble_eq_true rfl, Nat.le_of_ble_eq_true rfl⟩ [] [] [] ⟨rfl, rfl, rfl, rfl, by decide⟩ rfl xZq_move (xZq_use hX.2 hS (va_free hD hS hA [] rfl)) rfl hl.1 rfl (Nat.le_of_ble_eq_true rfl) dJ1_charAt_3b067_3 ⟨Nat.le_of_ble_eq_true rfl, Nat.le_of_ble_eq_true rfl⟩ (fun _ H locs hw hK1 hP hD hS => ?_)
  have hP : va_P D vwCl [] H := hP
  have hD : va_D A [] := hD
  refine lv_aload_n hx hb dJ1_charAt_3b067_6 rfl (lv_at hl 0 rfl) ?_
  refine lv_iload_n hx hb dJ1_charAt_3b067_7 rfl (lv_at hl 1 rfl) ?_
  refine va_tb hx hb hX.1 hS (i := nI j) (vp_in_nI (by omega) (by omega)) (v := Value.int (f9 j)) (by rw [nI_clamp (by omega)]) dJ1_charAt_3b067_8 ?_
  refine lv_sipush (v := 255) hx hb dJ1_charAt_3b067_9 (by decide) ?_
  refine lv_iand hx hb dJ1_charAt_3b067_12 ?_
  refine lv_topi (fun z_3 ez_3 => ?_)
  obtain ⟨z_4, ez_4⟩ : ∃ z : Int32, (z_3.toUInt32 % 65536).toInt32 = z := ⟨_, rfl⟩
  refine lv_i2c hx hb dJ1_charAt_3b067_13 ez_4 ?_
  have hP9 := hP.sub (ws' := []) [] rfl
  have hD9 := hD.sub (ws' := []) [] (by decide) rfl
  have hK9 := hK.sub (tys' := []) [] rfl
  refine W.widen (k := 0) (n := 0) (by decide) (by decide) ?_
  exact W.zret (v := z_4) hx hb hr (by rw [← ez_4]; exact pk_nc _) (fun t ht hW => ⟨⟨z_4, (), rfl, (by rw [← ez_4, ez_3]), by rw [ht]; exact hP9, va_K.moved hW.alike hK9, hD9⟩, hS.F ht⟩) hS.2.2 dJ1_charAt_3b067_14
set_option maxHeartbeats 4000000 in
set_option maxRecDepth 100000 in
theorem p_charAt (l : Launch) (D : va_G) (kk : Nat → Nat) (i : Nat) (j : Nat) (hi7 : i < 7) (hj9 : j < lenN i) : cI l yJ0_charAt_5068e (.code yJ0_charAt_5068e cJ0_charAt_5068e 2 (some .char)) ({ frames := 5, cells := 0, slots := 0, locals := 145 }) D [] [] (xS kk) [Value.ref (kk i), Value.int (nI j)] (S := Unit) (fun r _ => r = (stB.getD i []).getD j 0) (fun _ => []) (fun _ => []) := by
  intro sz
  refine Met.ofW (cc := cJ0_charAt_5068e) (maxL := 2) (ret := (some .char)) (by decide) rfl ?_
  intro p e s m args below meth c s₁ B hml hv
  obtain ⟨rfl, hsz, hP, hK, hD0, hX⟩ := hv
  have hx := B.exec
  have hb := B.bytes
  have hr := B.returns
  have hts0 := atoms_spec (ws := .code yJ0_charAt_5068e cJ0_charAt_5068e 2 (some .char) :: gw) B.pre
  have hts := fun (w : Cond) (h : w ∈ gw) => hts0 w (List.mem_cons_of_mem _ h)
  have hown : s.vm.findClass RJ0 = some m.cls := findClass_of_methodNamed B.named
  have hlocks := B.notSynchronized
  have F : mFix p s m _ c cJ0_charAt_5068e 2 RJ0 := ⟨hx, hb, hml, hown, hts⟩
  subst hsz
  have hD := hD0.self (sz := s.heap.size)
  generalize hAe : va_A [] s.heap.size = A at hD hX ⊢
  have hA : ∀ q : Nat, s.heap.size ≤ q → A q := fun q h => by rw [← hAe]; exact Or.inr h
  have hS : va_S A s.heap s.heap [] := va_S.rf
  have hl := lv_entry ([Value.ref (kk i), Value.int (nI j)]) (n := 2) (Nat.le_of_ble_eq_true rfl)
  rw [lg_entry_eq]
  generalize (lg_sl ([Value.ref (kk i), Value.int (nI j)]) ++ List.replicate (2 - (lg_sl ([Value.ref (kk i), Value.int (nI j)])).length) Slot.unset).toArray = ls at hl ⊢
  have hl : lv_has ls 2 [(0, Value.ref (kk i)), (1, Value.int (nI j))] := hl
  have hP : va_P D vwCl [] s.heap := hP
  obtain ⟨kv, hKS, hCS, hZq⟩ := id hX
  refine lv_aload_n hx hb dJ0_charAt_5068e_0 rfl (lv_at hl 0 rfl) ?_
  refine mc_Ki (rest := []) (wr := []) F hK hP hD hS hA (c_isLatin1 l D kk i (by omega)) ⟨gk_J0_492.1, gk_J0_492.2, Nat.le_of_ble_eq_true rfl, Nat.le_of_ble_eq_true rfl⟩ [] [] [] ⟨rfl, rfl, rfl, rfl, by decide⟩ rfl (xS_move kk) (xS_use hX hS (va_free hD hS hA [] rfl)) (x_rvS hX (by omega) hS) rfl hl.1 rfl (Nat.le_of_ble_eq_true rfl) dJ0_charAt_5068e_1 ⟨Nat.le_of_ble_eq_true rfl, Nat.le_of_ble_eq_true rfl⟩ (fun r_1 _ H locs hw hK1 hP hD hS => ?_)
  have hP : va_P D vwCl [] H := hP
  have hD : va_D A [] := hD
  have hw_2 : r_1 = 1 := hw
  obtain rfl : r_1 = 1 := hw_2
  refine lv_if_eq (tgt := 16) hx hb dJ0_charAt_5068e_4 (by decide) (fun c_3 => absurd c_3 (by decide)) (fun c_3 => ?_)
  refine lv_aload_n hx hb dJ0_charAt_5068e_7 rfl (lv_at hl 0 rfl) ?_
  refine vk_getf hx hb (hKS.1 i (by omega)).2.2.1 hS hown (hts _ kw_6_38) (fun _ h9 => h9) dJ0_charAt_5068e_8 ?_
  refine lv_iload_n hx hb dJ0_charAt_5068e_11 rfl (lv_at hl 1 rfl) ?_
  refine mc_Zi (rest := []) (wr := []) F hK hP hD hS hA (p_charAt1 l D (kv i) (fun q => (stB.getD i []).getD q 0) j (lenN i) (by omega) (Nat.lt_of_le_of_lt (lenN_le i hi7) (by decide))) ⟨gk_J0_495.1, gk_J0_495.2, Nat.le_of_ble_eq_true rfl, Nat.le_of_ble_eq_true rfl⟩ [] [] [] ⟨rfl, rfl, rfl, rfl, by decide⟩ rfl (xB_move (kv i) (lenN i) (fun j => .int ((fun q => (stB.getD i []).getD q 0) j))) (xB_use ⟨(hKS.1 i hi7).2.2.2, hZq⟩ hS (va_free hD hS hA [] rfl)) rfl hl.1 rfl (Nat.le_of_ble_eq_true rfl) dJ0_charAt_5068e_12 ⟨Nat.le_of_ble_eq_true rfl, Nat.le_of_ble_eq_true rfl⟩ (fun r_4 _ H locs hw hK1 hP hD hS => ?_)
  have hP : va_P D vwCl [] H := hP
  have hD : va_D A [] := hD
  have hw_5 : r_4 = (((fun q => (stB.getD i []).getD q 0) j &&& 255).toUInt32 % 65536).toInt32 := hw
  have hP9 := hP.sub (ws' := []) [] rfl
  have hD9 := hD.sub (ws' := []) [] (by decide) rfl
  have hK9 := hK.sub (tys' := []) [] rfl
  refine W.widen (k := 0) (n := 0) (by decide) (by decide) ?_
  exact W.zret (v := r_4) hx hb hr (by rw [hw_5]; exact pk_nc _) (fun t ht hW => ⟨⟨r_4, (), rfl, (hw_5.trans (chr7 i hi7 j hj9)), by rw [ht]; exact hP9, va_K.moved hW.alike hK9, hD9⟩, hS.F ht⟩) hS.2.2 dJ0_charAt_5068e_15
set_option maxHeartbeats 4000000 in
set_option maxRecDepth 100000 in
theorem lp_p_isWord {p : Program} {l : Launch} {e : Env} {s : State} {m : MethodId} {args : Array Value} {below : List Frame} {meth : Method} {c : Code} {Q : State → Prop} {A : Nat → Prop} {D : va_G} (F : mFix p s m args c cX2_isWord 3 RX2) (hA : ∀ q, s.heap.size ≤ q → A q) (kk : Nat → Nat) (h0 : Nat) (va : Nat) (tx : Nat) (nn : Nat) (nx : Nat) (s1 : Nat) (fk : Int32) (fp : Int32) (tk : Int32) (vl : Int32) (tc : ClassId) (ft : Nat → Int32) (i : Nat) (hK : va_K D vwCl [(tc, .int)] s) (hX : (xS kk) A s)
    (kx_46 : (∃ q, q < lenN i ∧ ¬ ft (s1 + q) = (stB.getD i []).getD q 0) → ∀ (H : Heap) (locs : List Loc), va_P D vwCl [(h0, Sum.inr (2, [Value.int fk, Value.int fp, Value.ref va, Value.ref tx, Value.int (nI nn), Value.int (nI nx), Value.int tk, Value.int (nI s1), Value.int vl])), (tx, Sum.inl (tc, 400, Sum.inl ft))] H → va_D A [(h0, Sum.inr (2, [Value.int fk, Value.int fp, Value.ref va, Value.ref tx, Value.int (nI nn), Value.int (nI nx), Value.int tk, Value.int (nI s1), Value.int vl])), (tx, Sum.inl (tc, 400, Sum.inl ft))] → va_S A s.heap H locs → ∀ ls : Array Slot, lv_has ls 3 [] → W p l e ({ frames := 6, cells := 0, slots := 0, locals := 166 }) s m args below meth c H locs 0 0 Q (F0 m 46 ls []))
    (kx_54 : (∀ q, q < lenN i → ft (s1 + q) = (stB.getD i []).getD q 0) → ∀ (H : Heap) (locs : List Loc), va_P D vwCl [(h0, Sum.inr (2, [Value.int fk, Value.int fp, Value.ref va, Value.ref tx, Value.int (nI nn), Value.int (nI nx), Value.int tk, Value.int (nI s1), Value.int vl])), (tx, Sum.inl (tc, 400, Sum.inl ft))] H → va_D A [(h0, Sum.inr (2, [Value.int fk, Value.int fp, Value.ref va, Value.ref tx, Value.int (nI nn), Value.int (nI nx), Value.int tk, Value.int (nI s1), Value.int vl])), (tx, Sum.inl (tc, 400, Sum.inl ft))] → va_S A s.heap H locs → ∀ ls : Array Slot, lv_has ls 3 [] → W p l e ({ frames := 6, cells := 0, slots := 0, locals := 166 }) s m args below meth c H locs 0 0 Q (F0 m 54 ls [])) :
    ∀ n : Nat, ∀ (j : Nat), (j ≤ lenN i) → (i < 7) → (lenN i ≤ 5) → (s1 ≤ nx) → (nx ≤ nn) → (nn ≤ 400) → (nx - s1 = lenN i) → (∀ q, q < j → ft (s1 + q) = (stB.getD i []).getD q 0) → (lenN i - j) < n → ∀ (H : Heap) (locs : List Loc), va_P D vwCl [(h0, Sum.inr (2, [Value.int fk, Value.int fp, Value.ref va, Value.ref tx, Value.int (nI nn), Value.int (nI nx), Value.int tk, Value.int (nI s1), Value.int vl])), (tx, Sum.inl (tc, 400, Sum.inl ft))] H → va_D A [(h0, Sum.inr (2, [Value.int fk, Value.int fp, Value.ref va, Value.ref tx, Value.int (nI nn), Value.int (nI nx), Value.int tk, Value.int (nI s1), Value.int vl])), (tx, Sum.inl (tc, 400, Sum.inl ft))] → va_S A s.heap H locs → ∀ ls : Array Slot, lv_has ls 3 [(0, Value.ref h0), (1, Value.ref (kk i)), (2, Value.int (nI j))] → W p l e ({ frames := 6, cells := 0, slots := 0, locals := 166 }) s m args below meth c H locs 0 0 Q (F0 m 20 ls []) := by
  intro n
  induction n with
  | zero => intro j hj hi7 hl5 hs1 hnxn hn4 heq hpre hn; exact absurd hn (Nat.not_lt_zero _)
  | succ n ih =>
    intro j hj hi7 hl5 hs1 hnxn hn4 heq hpre hn H locs hP hD hS ls hl
    obtain ⟨hx, hb, hml, hown, hts⟩ := id F
    refine lv_iload_n hx hb dX2_isWord_20 rfl (lv_at hl 2 rfl) ?_
    refine lv_aload_n hx hb dX2_isWord_21 rfl (lv_at hl 1 rfl) ?_
    refine mc_Ki (rest := [Value.int (nI j)]) (wr := [(h0, Sum.inr (2, [Value.int fk, Value.int fp, Value.ref va, Value.ref tx, Value.int (nI nn), Value.int (nI nx), Value.int tk, Value.int (nI s1), Value.int vl])), (tx, Sum.inl (tc, 400, Sum.inl ft))]) F hK hP hD hS hA (c_strlen l D kk i (by omega)) ⟨gk_X2_102.1, gk_X2_102.2, Nat.le_of_ble_eq_true rfl, Nat.le_of_ble_eq_true rfl⟩ [] [0, 1] [] ⟨rfl, rfl, rfl, rfl, by decide⟩ rfl (xS_move kk) (xS_use hX hS (va_free hD hS hA [] rfl)) (x_rvS hX (by omega) hS) rfl hl.1 rfl (Nat.le_of_ble_eq_true rfl) dX2_isWord_22 ⟨Nat.le_of_ble_eq_true rfl, Nat.le_of_ble_eq_true rfl⟩ (fun r_1 _ H locs hw hK1 hP hD hS => ?_)
    have hP : va_P D vwCl [(h0, Sum.inr (2, [Value.int fk, Value.int fp, Value.ref va, Value.ref tx, Value.int (nI nn), Value.int (nI nx), Value.int tk, Value.int (nI s1), Value.int vl])), (tx, Sum.inl (tc, 400, Sum.inl ft))] H := hP
    have hD : va_D A [(h0, Sum.inr (2, [Value.int fk, Value.int fp, Value.ref va, Value.ref tx, Value.int (nI nn), Value.int (nI nx), Value.int tk, Value.int (nI s1), Value.int vl])), (tx, Sum.inl (tc, 400, Sum.inl ft))] := hD
    have hw_2 : r_1 = nI (lenN i) := hw
    obtain rfl : r_1 = nI (lenN i) := hw_2
    refine lv_icmp_ge (tgt := 54) hx hb dX2_isWord_25 (by decide) (fun c_3 => ?_) (fun c_3 => ?_)
    · skip
      have c_3n : (lenN i) ≤ j := (nI_leI (by omega) (by omega)).mp c_3
      have c_3 := Int32.not_lt.mpr c_3
      exact kx_54  (fun q hq => hpre q (by omega)) H locs (hP.sub [0, 1] rfl) (hD.sub [0, 1] (by decide) rfl) hS ls (lv_sub hl [] rfl)
    · skip
      have c_3n : j < (lenN i) := nb_le (by omega) (by omega) c_3
      have c_3 := Int32.not_le.mp c_3
      refine lv_aload_n hx hb dX2_isWord_28 rfl (lv_at hl 0 rfl) ?_
      refine lv_aload_n hx hb dX2_isWord_29 rfl (lv_at hl 0 rfl) ?_
      refine va_get (D := D) (ci := 2) (v := Value.int (nI s1)) (C := RX2) (T := TX2) (N := 9) hx hb hts inG_X2 hown hK hP 0 rfl rfl 7 (by decide) (hts _ kw_1_63) (fun _ h9 => h9) rfl dX2_isWord_30 ?_
      refine lv_iload_n hx hb dX2_isWord_33 rfl (lv_at hl 2 rfl) ?_
      refine lv_iadd hx hb dX2_isWord_34 ?_
      refine lv_topi (fun z_4 ez_4 => ?_)
      obtain rfl : z_4 = nI (s1 + j) := ez_4.trans (nI_add s1 j)
      refine mc_Vi (rest := []) (wr := []) F hK hP hD hS hA (p_signAt l D h0 va tx nn nx fk fp tk (nI s1) vl tc ft (s1 + j) (by omega) (by omega)) ⟨gk_X2_107.1, gk_X2_107.2, Nat.le_of_ble_eq_true rfl, Nat.le_of_ble_eq_true rfl⟩ [0, 1] [] [0] ⟨rfl, rfl, rfl, rfl, by decide⟩ rfl xT_move (fun _ _ _ => trivial) 0 rfl rfl rfl hl.1 rfl (Nat.le_of_ble_eq_true rfl) dX2_isWord_35 ⟨Nat.le_of_ble_eq_true rfl, Nat.le_of_ble_eq_true rfl⟩ (fun r_5 _ H locs hw hK1 hP hD hS => ?_)
      have hP : va_P D vwCl [(h0, Sum.inr (2, [Value.int fk, Value.int fp, Value.ref va, Value.ref tx, Value.int (nI nn), Value.int (nI nx), Value.int tk, Value.int (nI s1), Value.int vl])), (tx, Sum.inl (tc, 400, Sum.inl ft))] H := hP
      have hD : va_D A [(h0, Sum.inr (2, [Value.int fk, Value.int fp, Value.ref va, Value.ref tx, Value.int (nI nn), Value.int (nI nx), Value.int tk, Value.int (nI s1), Value.int vl])), (tx, Sum.inl (tc, 400, Sum.inl ft))] := hD
      have hw_6 : r_5 = ft (s1 + j) := hw
      obtain rfl : r_5 = ft (s1 + j) := hw_6
      refine lv_aload_n hx hb dX2_isWord_38 rfl (lv_at hl 1 rfl) ?_
      refine lv_iload_n hx hb dX2_isWord_39 rfl (lv_at hl 2 rfl) ?_
      refine mc_Ki (rest := [Value.int (ft (s1 + j))]) (wr := [(h0, Sum.inr (2, [Value.int fk, Value.int fp, Value.ref va, Value.ref tx, Value.int (nI nn), Value.int (nI nx), Value.int tk, Value.int (nI s1), Value.int vl])), (tx, Sum.inl (tc, 400, Sum.inl ft))]) F hK hP hD hS hA (p_charAt l D kk i j (by omega) (by omega)) ⟨gk_X2_111.1, gk_X2_111.2, Nat.le_of_ble_eq_true rfl, Nat.le_of_ble_eq_true rfl⟩ [] [0, 1] [] ⟨rfl, rfl, rfl, rfl, by decide⟩ rfl (xS_move kk) (xS_use hX hS (va_free hD hS hA [] rfl)) (x_rvS hX (by omega) hS) rfl hl.1 rfl (Nat.le_of_ble_eq_true rfl) dX2_isWord_40 ⟨Nat.le_of_ble_eq_true rfl, Nat.le_of_ble_eq_true rfl⟩ (fun r_7 _ H locs hw hK1 hP hD hS => ?_)
      have hP : va_P D vwCl [(h0, Sum.inr (2, [Value.int fk, Value.int fp, Value.ref va, Value.ref tx, Value.int (nI nn), Value.int (nI nx), Value.int tk, Value.int (nI s1), Value.int vl])), (tx, Sum.inl (tc, 400, Sum.inl ft))] H := hP
      have hD : va_D A [(h0, Sum.inr (2, [Value.int fk, Value.int fp, Value.ref va, Value.ref tx, Value.int (nI nn), Value.int (nI nx), Value.int tk, Value.int (nI s1), Value.int vl])), (tx, Sum.inl (tc, 400, Sum.inl ft))] := hD
      have hw_8 : r_7 = (stB.getD i []).getD j 0 := hw
      obtain rfl : r_7 = (stB.getD i []).getD j 0 := hw_8
      refine lv_icmp_eq (tgt := 48) hx hb dX2_isWord_43 (by decide) (fun c_9 => ?_) (fun c_9 => ?_)
      · skip
        refine lv_iinc (v := nI (j + 1)) (lv' := [(2, Value.int (nI (j + 1))), (0, Value.ref h0), (1, Value.ref (kk i))]) hx hb dX2_isWord_48 hl (k := 2) rfl (nI_add j 1) (by decide) rfl (fun ls hl => ?_)
        refine lv_goto (tgt := 20) hx hb dX2_isWord_51 (by decide) ?_
        exact ih (j + 1) (by omega) (by omega) hl5 (by omega) (by omega) (by omega) heq (pre_s hpre c_9) (by omega) H locs (hP.sub [0, 1] rfl) (hD.sub [0, 1] (by decide) rfl) hS ls (lv_sub hl [1, 2, 0] rfl)
      · skip
        exact kx_46  (⟨j, by omega, c_9⟩) H locs (hP.sub [0, 1] rfl) (hD.sub [0, 1] (by decide) rfl) hS ls (lv_sub hl [] rfl)
set_option maxHeartbeats 4000000 in
set_option maxRecDepth 100000 in
theorem p_isWord (l : Launch) (D : va_G) (kk : Nat → Nat) (h0 : Nat) (va : Nat) (tx : Nat) (nn : Nat) (nx : Nat) (s1 : Nat) (fk : Int32) (fp : Int32) (tk : Int32) (vl : Int32) (tc : ClassId) (ft : Nat → Int32) (i : Nat) (hi7 : i < 7) (hs1 : s1 ≤ nx) (hnxn : nx ≤ nn) (hn4 : nn ≤ 400) : cI l yX2_isWord (.code yX2_isWord cX2_isWord 3 (some .boolean)) ({ frames := 6, cells := 0, slots := 0, locals := 166 }) D [(tc, .int)] [(h0, Sum.inr (2, [Value.int fk, Value.int fp, Value.ref va, Value.ref tx, Value.int (nI nn), Value.int (nI nx), Value.int tk, Value.int (nI s1), Value.int vl])), (tx, Sum.inl (tc, 400, Sum.inl ft))] (xS kk) [Value.ref h0, Value.ref (kk i)] (S := Unit) (fun r _ => r = (if cWm ft s1 nx i then 1 else 0)) (fun _ => []) (fun _ => [(h0, Sum.inr (2, [Value.int fk, Value.int fp, Value.ref va, Value.ref tx, Value.int (nI nn), Value.int (nI nx), Value.int tk, Value.int (nI s1), Value.int vl])), (tx, Sum.inl (tc, 400, Sum.inl ft))]) := by
  intro sz
  refine Met.ofW (cc := cX2_isWord) (maxL := 3) (ret := (some .boolean)) (by decide) rfl ?_
  intro p e s m args below meth c s₁ B hml hv
  obtain ⟨rfl, hsz, hP, hK, hD0, hX⟩ := hv
  have hx := B.exec
  have hb := B.bytes
  have hr := B.returns
  have hts0 := atoms_spec (ws := .code yX2_isWord cX2_isWord 3 (some .boolean) :: gw) B.pre
  have hts := fun (w : Cond) (h : w ∈ gw) => hts0 w (List.mem_cons_of_mem _ h)
  have hown : s.vm.findClass RX2 = some m.cls := findClass_of_methodNamed B.named
  have hlocks := B.notSynchronized
  have F : mFix p s m _ c cX2_isWord 3 RX2 := ⟨hx, hb, hml, hown, hts⟩
  subst hsz
  have hD := hD0.self (sz := s.heap.size)
  generalize hAe : va_A [(h0, Sum.inr (2, [Value.int fk, Value.int fp, Value.ref va, Value.ref tx, Value.int (nI nn), Value.int (nI nx), Value.int tk, Value.int (nI s1), Value.int vl])), (tx, Sum.inl (tc, 400, Sum.inl ft))] s.heap.size = A at hD hX ⊢
  have hA : ∀ q : Nat, s.heap.size ≤ q → A q := fun q h => by rw [← hAe]; exact Or.inr h
  have hS : va_S A s.heap s.heap [] := va_S.rf
  have hl := lv_entry ([Value.ref h0, Value.ref (kk i)]) (n := 3) (Nat.le_of_ble_eq_true rfl)
  rw [lg_entry_eq]
  generalize (lg_sl ([Value.ref h0, Value.ref (kk i)]) ++ List.replicate (3 - (lg_sl ([Value.ref h0, Value.ref (kk i)])).length) Slot.unset).toArray = ls at hl ⊢
  have hl : lv_has ls 3 [(0, Value.ref h0), (1, Value.ref (kk i))] := hl
  have hP : va_P D vwCl [(h0, Sum.inr (2, [Value.int fk, Value.int fp, Value.ref va, Value.ref tx, Value.int (nI nn), Value.int (nI nx), Value.int tk, Value.int (nI s1), Value.int vl])), (tx, Sum.inl (tc, 400, Sum.inl ft))] s.heap := hP
  have hl5 := lenN_le i hi7
  refine lv_aload_n hx hb dX2_isWord_0 rfl (lv_at hl 0 rfl) ?_
  refine va_get (D := D) (ci := 2) (v := Value.int (nI nx)) (C := RX2) (T := TX2) (N := 9) hx hb hts inG_X2 hown hK hP 0 rfl rfl 5 (by decide) (hts _ kw_1_61) (fun _ h9 => h9) rfl dX2_isWord_1 ?_
  refine lv_aload_n hx hb dX2_isWord_4 rfl (lv_at hl 0 rfl) ?_
  refine va_get (D := D) (ci := 2) (v := Value.int (nI s1)) (C := RX2) (T := TX2) (N := 9) hx hb hts inG_X2 hown hK hP 0 rfl rfl 7 (by decide) (hts _ kw_1_63) (fun _ h9 => h9) rfl dX2_isWord_5 ?_
  refine lv_isub hx hb dX2_isWord_8 ?_
  refine lv_topi (fun z_1 ez_1 => ?_)
  obtain rfl : z_1 = nI (nx - s1) := ez_1.trans (nI_subN hs1)
  refine lv_aload_n hx hb dX2_isWord_9 rfl (lv_at hl 1 rfl) ?_
  refine mc_Ki (rest := [Value.int (nI (nx - s1))]) (wr := [(h0, Sum.inr (2, [Value.int fk, Value.int fp, Value.ref va, Value.ref tx, Value.int (nI nn), Value.int (nI nx), Value.int tk, Value.int (nI s1), Value.int vl])), (tx, Sum.inl (tc, 400, Sum.inl ft))]) F hK hP hD hS hA (c_strlen l D kk i (by omega)) ⟨gk_X2_102.1, gk_X2_102.2, Nat.le_of_ble_eq_true rfl, Nat.le_of_ble_eq_true rfl⟩ [] [0, 1] [] ⟨rfl, rfl, rfl, rfl, by decide⟩ rfl (xS_move kk) (xS_use hX hS (va_free hD hS hA [] rfl)) (x_rvS hX (by omega) hS) rfl hl.1 rfl (Nat.le_of_ble_eq_true rfl) dX2_isWord_10 ⟨Nat.le_of_ble_eq_true rfl, Nat.le_of_ble_eq_true rfl⟩ (fun r_2 _ H locs hw hK1 hP hD hS => ?_)
  have hP : va_P D vwCl [(h0, Sum.inr (2, [Value.int fk, Value.int fp, Value.ref va, Value.ref tx, Value.int (nI nn), Value.int (nI nx), Value.int tk, Value.int (nI s1), Value.int vl])), (tx, Sum.inl (tc, 400, Sum.inl ft))] H := hP
  have hD : va_D A [(h0, Sum.inr (2, [Value.int fk, Value.int fp, Value.ref va, Value.ref tx, Value.int (nI nn), Value.int (nI nx), Value.int tk, Value.int (nI s1), Value.int vl])), (tx, Sum.inl (tc, 400, Sum.inl ft))] := hD
  have hw_3 : r_2 = nI (lenN i) := hw
  obtain rfl : r_2 = nI (lenN i) := hw_3
  refine lv_icmp_eq (tgt := 18) hx hb dX2_isWord_13 (by decide) (fun c_4 => ?_) (fun c_4 => ?_)
  · skip
    have c_4n : (nx - s1) = (lenN i) := (nI_eq (by omega) (by omega)).mp c_4
    refine lv_iconst (v := 0) hx hb dX2_isWord_18 (by decide) ?_
    refine lv_istore_n (lv' := [(2, Value.int 0), (0, Value.ref h0), (1, Value.ref (kk i))]) hx hb dX2_isWord_19 rfl hl (by decide) rfl (fun ls hl => ?_)
    refine lp_p_isWord F hA kk h0 va tx nn nx s1 fk fp tk vl tc ft i (hK.sub [0] rfl) hX (fun  h_5 H locs hP hD hS ls hl => ?_) (fun  h_6 H locs hP hD hS ls hl => ?_) _ 0 (by omega) (by omega) hl5 (by omega) (by omega) (by omega) (by omega) (fun q hq => absurd hq (Nat.not_lt_zero q)) (Nat.lt_succ_self _) _ _ (hP.sub [0, 1] rfl) (hD.sub [0, 1] (by decide) rfl) hS ls (lv_sub hl [1, 2, 0] rfl)
    · skip
      have h_5 : ∃ q, q < lenN i ∧ ¬ ft (s1 + q) = (stB.getD i []).getD q 0 := h_5
      refine lv_iconst (v := 0) hx hb dX2_isWord_46 (by decide) ?_
      have hP9 := hP.sub (ws' := [(h0, Sum.inr (2, [Value.int fk, Value.int fp, Value.ref va, Value.ref tx, Value.int (nI nn), Value.int (nI nx), Value.int tk, Value.int (nI s1), Value.int vl])), (tx, Sum.inl (tc, 400, Sum.inl ft))]) [0, 1] rfl
      have hD9 := hD.sub (ws' := [(h0, Sum.inr (2, [Value.int fk, Value.int fp, Value.ref va, Value.ref tx, Value.int (nI nn), Value.int (nI nx), Value.int tk, Value.int (nI s1), Value.int vl])), (tx, Sum.inl (tc, 400, Sum.inl ft))]) [0, 1] (by decide) rfl
      have hK9 := hK.sub (tys' := []) [] rfl
      refine W.widen (k := 0) (n := 0) (by decide) (by decide) ?_
      exact W.zret (v := 0) hx hb hr rfl (fun t ht hW => ⟨⟨0, (), rfl, (by rw [cWm_f (fun q => by obtain ⟨q9, h9, g9⟩ := h_5; exact g9 (q.2 q9 h9))]; rfl), by rw [ht]; exact hP9, va_K.moved hW.alike hK9, hD9⟩, hS.F ht⟩) hS.2.2 dX2_isWord_47
    · skip
      have h_6 : ∀ q, q < lenN i → ft (s1 + q) = (stB.getD i []).getD q 0 := h_6
      refine lv_iconst (v := 1) hx hb dX2_isWord_54 (by decide) ?_
      have hP9 := hP.sub (ws' := [(h0, Sum.inr (2, [Value.int fk, Value.int fp, Value.ref va, Value.ref tx, Value.int (nI nn), Value.int (nI nx), Value.int tk, Value.int (nI s1), Value.int vl])), (tx, Sum.inl (tc, 400, Sum.inl ft))]) [0, 1] rfl
      have hD9 := hD.sub (ws' := [(h0, Sum.inr (2, [Value.int fk, Value.int fp, Value.ref va, Value.ref tx, Value.int (nI nn), Value.int (nI nx), Value.int tk, Value.int (nI s1), Value.int vl])), (tx, Sum.inl (tc, 400, Sum.inl ft))]) [0, 1] (by decide) rfl
      have hK9 := hK.sub (tys' := []) [] rfl
      refine W.widen (k := 0) (n := 0) (by decide) (by decide) ?_
      exact W.zret (v := 1) hx hb hr rfl (fun t ht hW => ⟨⟨1, (), rfl, (by rw [cWm_t ⟨c_4n, h_6⟩]; rfl), by rw [ht]; exact hP9, va_K.moved hW.alike hK9, hD9⟩, hS.F ht⟩) hS.2.2 dX2_isWord_55
  · skip
    have c_4n : ¬ (nx - s1) = (lenN i) := nb_eq (by omega) (by omega) c_4
    refine lv_iconst (v := 0) hx hb dX2_isWord_16 (by decide) ?_
    have hP9 := hP.sub (ws' := [(h0, Sum.inr (2, [Value.int fk, Value.int fp, Value.ref va, Value.ref tx, Value.int (nI nn), Value.int (nI nx), Value.int tk, Value.int (nI s1), Value.int vl])), (tx, Sum.inl (tc, 400, Sum.inl ft))]) [0, 1] rfl
    have hD9 := hD.sub (ws' := [(h0, Sum.inr (2, [Value.int fk, Value.int fp, Value.ref va, Value.ref tx, Value.int (nI nn), Value.int (nI nx), Value.int tk, Value.int (nI s1), Value.int vl])), (tx, Sum.inl (tc, 400, Sum.inl ft))]) [0, 1] (by decide) rfl
    have hK9 := hK.sub (tys' := []) [] rfl
    refine W.widen (k := 0) (n := 0) (by decide) (by decide) ?_
    exact W.zret (v := 0) hx hb hr rfl (fun t ht hW => ⟨⟨0, (), rfl, (by rw [cWm_f (fun q => c_4n q.1)]; rfl), by rw [ht]; exact hP9, va_K.moved hW.alike hK9, hD9⟩, hS.F ht⟩) hS.2.2 dX2_isWord_17
set_option maxHeartbeats 4000000 in
set_option maxRecDepth 100000 in
theorem lp_p_kindOf {p : Program} {l : Launch} {e : Env} {s : State} {m : MethodId} {args : Array Value} {below : List Frame} {meth : Method} {c : Code} {Q : State → Prop} {A : Nat → Prop} {D : va_G} (F : mFix p s m args c cX2_kindOfWord 5 RX2) (hA : ∀ q, s.heap.size ≤ q → A q) (en : Nat → Nat) (kk : Nat → Nat) (h0 : Nat) (va : Nat) (tx : Nat) (nn : Nat) (nx : Nat) (s1 : Nat) (fk : Int32) (fp : Int32) (tk : Nat) (vl : Int32) (tc : ClassId) (ft : Nat → Int32) (al : Nat) (WQ : Nat) (hK : va_K D vwCl [(tc, .int)] s) (hX : (xR en kk) A s) (hTal : va_T (.object RX5) al 7 (fun j => .ref (en j)) A s s.heap)
    (kx_41 : (WQ < 7) → ∀ (H : Heap) (locs : List Loc), va_P D vwCl [(h0, Sum.inr (2, [Value.int fk, Value.int fp, Value.ref va, Value.ref tx, Value.int (nI nn), Value.int (nI nx), Value.int (nI tk), Value.int (nI s1), Value.int vl])), (tx, Sum.inl (tc, 400, Sum.inl ft))] H → va_D A [(h0, Sum.inr (2, [Value.int fk, Value.int fp, Value.ref va, Value.ref tx, Value.int (nI nn), Value.int (nI nx), Value.int (nI tk), Value.int (nI s1), Value.int vl])), (tx, Sum.inl (tc, 400, Sum.inl ft))] → va_S A s.heap H locs → ∀ ls : Array Slot, lv_has ls 5 [(4, Value.ref (en WQ))] → W p l e ({ frames := 7, cells := 0, slots := 0, locals := 188 }) s m args below meth c H locs 0 0 Q (F0 m 41 ls []))
    (kx_50 : (7 ≤ WQ) → ∀ (H : Heap) (locs : List Loc), va_P D vwCl [(h0, Sum.inr (2, [Value.int fk, Value.int fp, Value.ref va, Value.ref tx, Value.int (nI nn), Value.int (nI nx), Value.int (nI tk), Value.int (nI s1), Value.int vl])), (tx, Sum.inl (tc, 400, Sum.inl ft))] H → va_D A [(h0, Sum.inr (2, [Value.int fk, Value.int fp, Value.ref va, Value.ref tx, Value.int (nI nn), Value.int (nI nx), Value.int (nI tk), Value.int (nI s1), Value.int vl])), (tx, Sum.inl (tc, 400, Sum.inl ft))] → va_S A s.heap H locs → ∀ ls : Array Slot, lv_has ls 5 [] → W p l e ({ frames := 7, cells := 0, slots := 0, locals := 188 }) s m args below meth c H locs 0 0 Q (F0 m 50 ls [])) :
    ∀ n : Nat, ∀ (i : Nat), (i ≤ 7) → (s1 ≤ nx) → (nx ≤ nn) → (nn ≤ 400) → (run (fun k => !cWm ft s1 nx k) 7 i = WQ) → (7 - i) < n → ∀ (H : Heap) (locs : List Loc), va_P D vwCl [(h0, Sum.inr (2, [Value.int fk, Value.int fp, Value.ref va, Value.ref tx, Value.int (nI nn), Value.int (nI nx), Value.int (nI tk), Value.int (nI s1), Value.int vl])), (tx, Sum.inl (tc, 400, Sum.inl ft))] H → va_D A [(h0, Sum.inr (2, [Value.int fk, Value.int fp, Value.ref va, Value.ref tx, Value.int (nI nn), Value.int (nI nx), Value.int (nI tk), Value.int (nI s1), Value.int vl])), (tx, Sum.inl (tc, 400, Sum.inl ft))] → va_S A s.heap H locs → ∀ ls : Array Slot, lv_has ls 5 [(0, Value.ref h0), (1, Value.ref al), (2, Value.int 7), (3, Value.int (nI i))] → W p l e ({ frames := 7, cells := 0, slots := 0, locals := 188 }) s m args below meth c H locs 0 0 Q (F0 m 19 ls []) := by
  intro n
  induction n with
  | zero => intro i hi hs1 hnxn hn4 hw7 hn; exact absurd hn (Nat.not_lt_zero _)
  | succ n ih =>
    intro i hi hs1 hnxn hn4 hw7 hn H locs hP hD hS ls hl
    obtain ⟨hx, hb, hml, hown, hts⟩ := id F
    refine lv_iload_n hx hb dX2_kindOfWord_19 rfl (lv_at hl 3 rfl) ?_
    refine lv_iload_n hx hb dX2_kindOfWord_20 rfl (lv_at hl 2 rfl) ?_
    refine lv_icmp_ge (tgt := 50) hx hb dX2_kindOfWord_21 (by decide) (fun c_1 => ?_) (fun c_1 => ?_)
    · skip
      have c_1n : 7 ≤ i := (nI_leI (by omega) (by omega)).mp c_1
      have c_1 := Int32.not_lt.mpr c_1
      obtain rfl : WQ = i := hw7.symm.trans (run_st (Or.inl c_1n))
      exact kx_50  (by omega) H locs (hP.sub [0, 1] rfl) (hD.sub [0, 1] (by decide) rfl) hS ls (lv_sub hl [] rfl)
    · skip
      have c_1n : i < 7 := nb_le (by omega) (by omega) c_1
      have c_1 := Int32.not_le.mp c_1
      refine lv_aload_n hx hb dX2_kindOfWord_24 rfl (lv_at hl 1 rfl) ?_
      refine lv_iload_n hx hb dX2_kindOfWord_25 rfl (lv_at hl 3 rfl) ?_
      refine vb_tq hx hb hTal hS (i := nI i) (vp_in_nI (by omega) (by omega)) (v := Value.ref (en i)) (by rw [nI_clamp (by omega)]) dX2_kindOfWord_26 ?_
      refine lv_astore (lv' := [(4, Value.ref (en i)), (0, Value.ref h0), (1, Value.ref al), (2, Value.int 7), (3, Value.int (nI i))]) hx hb dX2_kindOfWord_27 hl (by decide) rfl (fun ls hl => ?_)
      refine lv_aload_n hx hb dX2_kindOfWord_29 rfl (lv_at hl 1 rfl) ?_
      refine lv_aload hx hb dX2_kindOfWord_30 (lv_at hl 0 rfl) ?_
      refine va_getX hx hb hX.2.2.1 (i := i) (by omega) hS hown (hts _ kw_6_37) (fun _ h9 => h9) dX2_kindOfWord_32 ?_
      refine W.eq (g2 := F0 m 35 ls [Value.ref (kk i), Value.ref h0]) rfl ?_
      refine mc_Vi (rest := []) (wr := []) F hK hP hD hS hA (p_isWord l D kk h0 va tx nn nx s1 fk fp (nI tk) vl tc ft i (by omega) (by omega) (by omega) (by omega)) ⟨gk_X2_98.1, gk_X2_98.2, Nat.le_of_ble_eq_true rfl, Nat.le_of_ble_eq_true rfl⟩ [0, 1] [] [0] ⟨rfl, rfl, rfl, rfl, by decide⟩ rfl (xS_move kk) (xS_use hX.1 hS (va_free hD hS hA [0, 1] rfl)) 0 rfl rfl rfl hl.1 rfl (Nat.le_of_ble_eq_true rfl) dX2_kindOfWord_35 ⟨Nat.le_of_ble_eq_true rfl, Nat.le_of_ble_eq_true rfl⟩ (fun r_2 _ H locs hw hK1 hP hD hS => ?_)
      have hP : va_P D vwCl [(h0, Sum.inr (2, [Value.int fk, Value.int fp, Value.ref va, Value.ref tx, Value.int (nI nn), Value.int (nI nx), Value.int (nI tk), Value.int (nI s1), Value.int vl])), (tx, Sum.inl (tc, 400, Sum.inl ft))] H := hP
      have hD : va_D A [(h0, Sum.inr (2, [Value.int fk, Value.int fp, Value.ref va, Value.ref tx, Value.int (nI nn), Value.int (nI nx), Value.int (nI tk), Value.int (nI s1), Value.int vl])), (tx, Sum.inl (tc, 400, Sum.inl ft))] := hD
      have hw_3 : r_2 = (if cWm ft s1 nx i then 1 else 0) := hw
      by_cases hm_4 : cWm ft s1 nx i = true
      · skip
        obtain rfl : r_2 = 1 := by rw [hw_3, if_pos hm_4]
        obtain rfl : WQ = i := hw7.symm.trans (run_st (Or.inr (by rw [hm_4]; rfl)))
        have hl : lv_has ls 5 [(4, Value.ref (en WQ)), (0, Value.ref h0), (1, Value.ref al), (2, Value.int 7), (3, Value.int (nI WQ))] := hl
        refine lv_if_eq (tgt := 44) hx hb dX2_kindOfWord_38 (by decide) (fun c_5 => absurd c_5 (by decide)) (fun c_5 => ?_)
        exact kx_41  (by omega) H locs (hP.sub [0, 1] rfl) (hD.sub [0, 1] (by decide) rfl) hS ls (lv_sub hl [0] rfl)
      · skip
        obtain rfl : r_2 = 0 := by rw [hw_3, if_neg hm_4]
        refine lv_if_eq (tgt := 44) hx hb dX2_kindOfWord_38 (by decide) (fun c_6 => ?_) (fun c_6 => absurd c_6 (by decide))
        refine lv_iinc (v := nI (i + 1)) (lv' := [(3, Value.int (nI (i + 1))), (4, Value.ref (en i)), (0, Value.ref h0), (1, Value.ref al), (2, Value.int 7)]) hx hb dX2_kindOfWord_44 hl (k := 4) rfl (nI_add i 1) (by decide) rfl (fun ls hl => ?_)
        refine lv_goto (tgt := 19) hx hb dX2_kindOfWord_47 (by decide) ?_
        exact ih (i + 1) (by omega) (by omega) (by omega) (by omega) ((run_go (p := fun k => !cWm ft s1 nx k) (by omega) (by simp [hm_4])).symm.trans hw7) (by omega) H locs (hP.sub [0, 1] rfl) (hD.sub [0, 1] (by decide) rfl) hS ls (lv_sub hl [2, 3, 4, 0] rfl)
set_option maxHeartbeats 4000000 in
set_option maxRecDepth 100000 in
theorem p_kindOfWord (l : Launch) (D : va_G) (en : Nat → Nat) (kk : Nat → Nat) (h0 : Nat) (va : Nat) (tx : Nat) (nn : Nat) (nx : Nat) (s1 : Nat) (fk : Int32) (fp : Int32) (tk : Nat) (vl : Int32) (tc : ClassId) (ft : Nat → Int32) (hs1 : s1 ≤ nx) (hnxn : nx ≤ nn) (hn4 : nn ≤ 400) (htk : tk ≤ 4) : cQ l yX2_kindOfWord (.code yX2_kindOfWord cX2_kindOfWord 5 (some (.object "IceFair$LineKind"))) ({ frames := 7, cells := 0, slots := 0, locals := 188 }) D [(tc, .int)] [(h0, Sum.inr (2, [Value.int fk, Value.int fp, Value.ref va, Value.ref tx, Value.int (nI nn), Value.int (nI nx), Value.int (nI tk), Value.int (nI s1), Value.int vl])), (tx, Sum.inl (tc, 400, Sum.inl ft))] (xR en kk) [Value.ref h0] (S := Unit) (fun r _ => (tk = 1 ∧ wI ft s1 nx < 7 ∧ r = some (en (wI ft s1 nx))) ∨ (¬ (tk = 1 ∧ wI ft s1 nx < 7) ∧ r = none)) (fun _ => []) (fun _ => [(h0, Sum.inr (2, [Value.int fk, Value.int fp, Value.ref va, Value.ref tx, Value.int (nI nn), Value.int (nI nx), Value.int (nI tk), Value.int (nI s1), Value.int vl])), (tx, Sum.inl (tc, 400, Sum.inl ft))]) := by
  intro sz
  refine Met.ofW (cc := cX2_kindOfWord) (maxL := 5) (ret := (some (.object "IceFair$LineKind"))) (by decide) rfl ?_
  intro p e s m args below meth c s₁ B hml hv
  obtain ⟨rfl, hsz, hP, hK, hD0, hX⟩ := hv
  have hx := B.exec
  have hb := B.bytes
  have hr := B.returns
  have hts0 := atoms_spec (ws := .code yX2_kindOfWord cX2_kindOfWord 5 (some (.object "IceFair$LineKind")) :: gw) B.pre
  have hts := fun (w : Cond) (h : w ∈ gw) => hts0 w (List.mem_cons_of_mem _ h)
  have hown : s.vm.findClass RX2 = some m.cls := findClass_of_methodNamed B.named
  have hlocks := B.notSynchronized
  have F : mFix p s m _ c cX2_kindOfWord 5 RX2 := ⟨hx, hb, hml, hown, hts⟩
  subst hsz
  have hD := hD0.self (sz := s.heap.size)
  generalize hAe : va_A [(h0, Sum.inr (2, [Value.int fk, Value.int fp, Value.ref va, Value.ref tx, Value.int (nI nn), Value.int (nI nx), Value.int (nI tk), Value.int (nI s1), Value.int vl])), (tx, Sum.inl (tc, 400, Sum.inl ft))] s.heap.size = A at hD hX ⊢
  have hA : ∀ q : Nat, s.heap.size ≤ q → A q := fun q h => by rw [← hAe]; exact Or.inr h
  have hS : va_S A s.heap s.heap [] := va_S.rf
  have hl := lv_entry ([Value.ref h0]) (n := 5) (Nat.le_of_ble_eq_true rfl)
  rw [lg_entry_eq]
  generalize (lg_sl ([Value.ref h0]) ++ List.replicate (5 - (lg_sl ([Value.ref h0])).length) Slot.unset).toArray = ls at hl ⊢
  have hl : lv_has ls 5 [(0, Value.ref h0)] := hl
  have hP : va_P D vwCl [(h0, Sum.inr (2, [Value.int fk, Value.int fp, Value.ref va, Value.ref tx, Value.int (nI nn), Value.int (nI nx), Value.int (nI tk), Value.int (nI s1), Value.int vl])), (tx, Sum.inl (tc, 400, Sum.inl ft))] s.heap := hP
  refine lv_aload_n hx hb dX2_kindOfWord_0 rfl (lv_at hl 0 rfl) ?_
  refine va_get (D := D) (ci := 2) (v := Value.int (nI tk)) (C := RX2) (T := TX2) (N := 9) hx hb hts inG_X2 hown hK hP 0 rfl rfl 6 (by decide) (hts _ kw_1_62) (fun _ h9 => h9) rfl dX2_kindOfWord_1 ?_
  refine lv_iconst (v := 1) hx hb dX2_kindOfWord_4 (by decide) ?_
  refine lv_icmp_eq (tgt := 10) hx hb dX2_kindOfWord_5 (by decide) (fun c_1 => ?_) (fun c_1 => ?_)
  · skip
    have c_1n : tk = 1 := (nI_eq (by omega) (by omega)).mp c_1
    obtain ⟨al, hZal, hTal⟩ := id hX.2.2.2.1
    refine va_getsN hx hb hZal hS hown (va_Nw.use rfl hX.2.2.2.2) (fun _ h9 => h9) dX2_kindOfWord_10 ?_
    refine lv_astore_n (lv' := [(1, Value.ref al), (0, Value.ref h0)]) hx hb dX2_kindOfWord_13 rfl hl (by decide) rfl (fun ls hl => ?_)
    refine lv_aload_n hx hb dX2_kindOfWord_14 rfl (lv_at hl 0 rfl) ?_
    refine va_tlen hx hb hTal hS (v := 7) rfl dX2_kindOfWord_15 ?_
    refine lv_istore_n (lv' := [(2, Value.int 7), (1, Value.ref al), (0, Value.ref h0)]) hx hb dX2_kindOfWord_16 rfl hl (by decide) rfl (fun ls hl => ?_)
    refine lv_iconst (v := 0) hx hb dX2_kindOfWord_17 (by decide) ?_
    refine lv_istore_n (lv' := [(3, Value.int 0), (2, Value.int 7), (1, Value.ref al), (0, Value.ref h0)]) hx hb dX2_kindOfWord_18 rfl hl (by decide) rfl (fun ls hl => ?_)
    refine lp_p_kindOf F hA en kk h0 va tx nn nx s1 fk fp tk vl tc ft al (wI ft s1 nx) (hK.sub [0] rfl) hX hTal (fun  h_2 H locs hP hD hS ls hl => ?_) (fun  h_3 H locs hP hD hS ls hl => ?_) _ 0 (by omega) (by omega) (by omega) (by omega) rfl (Nat.lt_succ_self _) _ _ (hP.sub [0, 1] rfl) (hD.sub [0, 1] (by decide) rfl) hS ls (lv_sub hl [3, 2, 1, 0] rfl)
    · skip
      have h_2 : (wI ft s1 nx) < 7 := h_2
      refine lv_aload hx hb dX2_kindOfWord_41 (lv_at hl 0 rfl) ?_
      have hP9 := hP.sub (ws' := [(h0, Sum.inr (2, [Value.int fk, Value.int fp, Value.ref va, Value.ref tx, Value.int (nI nn), Value.int (nI nx), Value.int (nI tk), Value.int (nI s1), Value.int vl])), (tx, Sum.inl (tc, 400, Sum.inl ft))]) [0, 1] rfl
      have hD9 := hD.sub (ws' := [(h0, Sum.inr (2, [Value.int fk, Value.int fp, Value.ref va, Value.ref tx, Value.int (nI nn), Value.int (nI nx), Value.int (nI tk), Value.int (nI s1), Value.int vl])), (tx, Sum.inl (tc, 400, Sum.inl ft))]) [0, 1] (by decide) rfl
      have hK9 := hK.sub (tys' := []) [] rfl
      refine W.widen (k := 0) (n := 0) (by decide) (by decide) ?_
      exact W.aret (v := Value.ref (en (wI ft s1 nx))) hx hb hr (Or.inl ⟨_, rfl⟩) (Or.inr ⟨_, rfl⟩) (fun t ht hW => ⟨⟨(some (en (wI ft s1 nx))), (), rfl, Or.inl ⟨c_1n, h_2, rfl⟩, by rw [ht]; exact hP9, va_K.moved hW.alike hK9, hD9⟩, hS.F ht⟩) hS.2.2 dX2_kindOfWord_43
    · skip
      have h_3 : 7 ≤ (wI ft s1 nx) := h_3
      refine lv_null hx hb dX2_kindOfWord_50 ?_
      have hP9 := hP.sub (ws' := [(h0, Sum.inr (2, [Value.int fk, Value.int fp, Value.ref va, Value.ref tx, Value.int (nI nn), Value.int (nI nx), Value.int (nI tk), Value.int (nI s1), Value.int vl])), (tx, Sum.inl (tc, 400, Sum.inl ft))]) [0, 1] rfl
      have hD9 := hD.sub (ws' := [(h0, Sum.inr (2, [Value.int fk, Value.int fp, Value.ref va, Value.ref tx, Value.int (nI nn), Value.int (nI nx), Value.int (nI tk), Value.int (nI s1), Value.int vl])), (tx, Sum.inl (tc, 400, Sum.inl ft))]) [0, 1] (by decide) rfl
      have hK9 := hK.sub (tys' := []) [] rfl
      refine W.widen (k := 0) (n := 0) (by decide) (by decide) ?_
      exact W.aret (v := Value.null) hx hb hr (Or.inl ⟨_, rfl⟩) (Or.inl rfl) (fun t ht hW => ⟨⟨none, (), rfl, Or.inr ⟨fun q => absurd q.2 (Nat.not_lt.mpr h_3), rfl⟩, by rw [ht]; exact hP9, va_K.moved hW.alike hK9, hD9⟩, hS.F ht⟩) hS.2.2 dX2_kindOfWord_51
  · skip
    have c_1n : ¬ tk = 1 := nb_eq (by omega) (by omega) c_1
    refine lv_null hx hb dX2_kindOfWord_8 ?_
    have hP9 := hP.sub (ws' := [(h0, Sum.inr (2, [Value.int fk, Value.int fp, Value.ref va, Value.ref tx, Value.int (nI nn), Value.int (nI nx), Value.int (nI tk), Value.int (nI s1), Value.int vl])), (tx, Sum.inl (tc, 400, Sum.inl ft))]) [0, 1] rfl
    have hD9 := hD.sub (ws' := [(h0, Sum.inr (2, [Value.int fk, Value.int fp, Value.ref va, Value.ref tx, Value.int (nI nn), Value.int (nI nx), Value.int (nI tk), Value.int (nI s1), Value.int vl])), (tx, Sum.inl (tc, 400, Sum.inl ft))]) [0, 1] (by decide) rfl
    have hK9 := hK.sub (tys' := []) [] rfl
    refine W.widen (k := 0) (n := 0) (by decide) (by decide) ?_
    exact W.aret (v := Value.null) hx hb hr (Or.inl ⟨_, rfl⟩) (Or.inl rfl) (fun t ht hW => ⟨⟨none, (), rfl, Or.inr ⟨fun q => c_1n q.1, rfl⟩, by rw [ht]; exact hP9, va_K.moved hW.alike hK9, hD9⟩, hS.F ht⟩) hS.2.2 dX2_kindOfWord_9
