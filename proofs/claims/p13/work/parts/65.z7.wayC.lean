set_option maxHeartbeats 4000000 in
set_option maxRecDepth 100000 in
theorem s_stepsFrom (l : Launch) (D : va_G) (h0 : Nat) (rv : Nat) (wy1 : Nat) (wy2 : Nat) (wy3 : Nat) (wy4 : Nat) (wc1 : ClassId) (s1 : Nat → Int32) (qd : Int32) (cr : Int32) (q1 : Nat) (q2 : Nat) (q3 : Nat) (q4 : Nat) (q5 : Nat) (q6 : Nat) (w : Nat) (h : Nat) (i : Nat) (j : Nat) (sp : Nat) (Fm : Nat → Prop) (h3 : w ≤ 10) (h4 : h ≤ 10) (hi9 : i < w) (hj9 : j < h) (hFm : ∀ c, Fm c → c % 10 < w ∧ c / 10 < h) (hsc : stC Fm sp s1) : cI l yX8_stepsFrom (.code yX8_stepsFrom cX8_stepsFrom 5 (some .int)) ({ frames := 2, cells := 0, slots := 0, locals := 81 }) D [(wc1, .int)] [(h0, Sum.inr (7, [Value.ref wy1, Value.ref wy2, Value.int qd, Value.ref wy3, Value.ref wy4, Value.int cr])), (wy1, Sum.inl (wc1, 100, Sum.inl s1)), (rv, Sum.inr (5, [Value.int (nI w), Value.int (nI h), Value.ref q1, Value.ref q2, Value.ref q3, Value.ref q4, Value.ref q5, Value.ref q6]))] xT [Value.ref h0, Value.ref rv, Value.int (nI i), Value.int (nI j)] (S := Unit) (fun r _ => lsQ (fun m => wlo Fm sp m (j * 10 + i)) 100 r) (fun _ => []) (fun _ => [(h0, Sum.inr (7, [Value.ref wy1, Value.ref wy2, Value.int qd, Value.ref wy3, Value.ref wy4, Value.int cr])), (wy1, Sum.inl (wc1, 100, Sum.inl s1)), (rv, Sum.inr (5, [Value.int (nI w), Value.int (nI h), Value.ref q1, Value.ref q2, Value.ref q3, Value.ref q4, Value.ref q5, Value.ref q6]))]) := by
  intro sz
  refine Met.ofW (cc := cX8_stepsFrom) (maxL := 5) (ret := (some .int)) (by decide) rfl ?_
  intro p e s m args below meth c s₁ B hml hv
  obtain ⟨rfl, hsz, hP, hK, hD0, hX⟩ := hv
  have hx := B.exec
  have hb := B.bytes
  have hr := B.returns
  have hts0 := atoms_spec (ws := .code yX8_stepsFrom cX8_stepsFrom 5 (some .int) :: gw) B.pre
  have hts := fun (w : Cond) (h : w ∈ gw) => hts0 w (List.mem_cons_of_mem _ h)
  have hown : s.vm.findClass RX8 = some m.cls := findClass_of_methodNamed B.named
  have hlocks := B.notSynchronized
  have F : mFix p s m _ c cX8_stepsFrom 5 RX8 := ⟨hx, hb, hml, hown, hts⟩
  subst hsz
  have hD := hD0.self (sz := s.heap.size)
  generalize hAe : va_A [(h0, Sum.inr (7, [Value.ref wy1, Value.ref wy2, Value.int qd, Value.ref wy3, Value.ref wy4, Value.int cr])), (wy1, Sum.inl (wc1, 100, Sum.inl s1)), (rv, Sum.inr (5, [Value.int (nI w), Value.int (nI h), Value.ref q1, Value.ref q2, Value.ref q3, Value.ref q4, Value.ref q5, Value.ref q6]))] s.heap.size = A at hD hX ⊢
  have hA : ∀ q : Nat, s.heap.size ≤ q → A q := fun q h => by rw [← hAe]; exact Or.inr h
  have hS : va_S A s.heap s.heap [] := va_S.rf
  have hl := lv_entry ([Value.ref h0, Value.ref rv, Value.int (nI i), Value.int (nI j)]) (n := 5) (Nat.le_of_ble_eq_true rfl)
  rw [lg_entry_eq]
  generalize (lg_sl ([Value.ref h0, Value.ref rv, Value.int (nI i), Value.int (nI j)]) ++ List.replicate (5 - (lg_sl ([Value.ref h0, Value.ref rv, Value.int (nI i), Value.int (nI j)])).length) Slot.unset).toArray = ls at hl ⊢
  have hl : lv_has ls 5 [(0, Value.ref h0), (1, Value.ref rv), (2, Value.int (nI i)), (3, Value.int (nI j))] := hl
  have hP : va_P D vwCl [(h0, Sum.inr (7, [Value.ref wy1, Value.ref wy2, Value.int qd, Value.ref wy3, Value.ref wy4, Value.int cr])), (wy1, Sum.inl (wc1, 100, Sum.inl s1)), (rv, Sum.inr (5, [Value.int (nI w), Value.int (nI h), Value.ref q1, Value.ref q2, Value.ref q3, Value.ref q4, Value.ref q5, Value.ref q6]))] s.heap := hP
  refine lv_aload_n hx hb dX8_stepsFrom_0 rfl (lv_at hl 0 rfl) ?_
  refine lv_aload_n hx hb dX8_stepsFrom_1 rfl (lv_at hl 1 rfl) ?_
  refine lv_iload_n hx hb dX8_stepsFrom_2 rfl (lv_at hl 2 rfl) ?_
  refine lv_iload_n hx hb dX8_stepsFrom_3 rfl (lv_at hl 3 rfl) ?_
  refine mc_Vi (rest := []) (wr := []) F hK hP hD hS hA (s_stepsAt l D h0 rv wy1 wy2 wy3 wy4 wc1 s1 qd cr q1 q2 q3 q4 q5 q6 w h (nI i) (nI j) (by omega) (by omega)) ⟨gk_X8_124.1, gk_X8_124.2, Nat.le_of_ble_eq_true rfl, Nat.le_of_ble_eq_true rfl⟩ [0, 1, 2] [] [0] ⟨rfl, rfl, rfl, rfl, by decide⟩ rfl xT_move (fun _ _ _ => trivial) 0 rfl rfl rfl hl.1 rfl (Nat.le_of_ble_eq_true rfl) dX8_stepsFrom_4 ⟨Nat.le_of_ble_eq_true rfl, Nat.le_of_ble_eq_true rfl⟩ (fun r_1 _ H locs hw hK1 hP hD hS => ?_)
  have hP : va_P D vwCl [(h0, Sum.inr (7, [Value.ref wy1, Value.ref wy2, Value.int qd, Value.ref wy3, Value.ref wy4, Value.int cr])), (wy1, Sum.inl (wc1, 100, Sum.inl s1)), (rv, Sum.inr (5, [Value.int (nI w), Value.int (nI h), Value.ref q1, Value.ref q2, Value.ref q3, Value.ref q4, Value.ref q5, Value.ref q6]))] H := hP
  have hD : va_D A [(h0, Sum.inr (7, [Value.ref wy1, Value.ref wy2, Value.int qd, Value.ref wy3, Value.ref wy4, Value.int cr])), (wy1, Sum.inl (wc1, 100, Sum.inl s1)), (rv, Sum.inr (5, [Value.int (nI w), Value.int (nI h), Value.ref q1, Value.ref q2, Value.ref q3, Value.ref q4, Value.ref q5, Value.ref q6]))] := hD
  have hw_2 : (((nI i) < 0 ∨ ¬ (nI i) < nI w ∨ (nI j) < 0 ∨ ¬ (nI j) < nI h) ∧ r_1 = (-1)) ∨ (¬ ((nI i) < 0 ∨ ¬ (nI i) < nI w ∨ (nI j) < 0 ∨ ¬ (nI j) < nI h) ∧ r_1 = s1 (cl (nI i) (nI j))) := hw
  have hv1 : r_1 = s1 (j * 10 + i) := (hw_2.resolve_left (fun q => out_in (by omega) (by omega) (by omega) (by omega) q.1)).2.trans (by rw [cl_nI (by omega) (by omega)])
  refine lv_iconst (v := -1) hx hb dX8_stepsFrom_7 (by decide) ?_
  refine lv_icmp_eq (tgt := 19) hx hb dX8_stepsFrom_8 (by decide) (fun c_3 => ?_) (fun c_3 => ?_)
  · skip
    refine lv_aload_n hx hb dX8_stepsFrom_19 rfl (lv_at hl 1 rfl) ?_
    refine lv_iload_n hx hb dX8_stepsFrom_20 rfl (lv_at hl 2 rfl) ?_
    refine lv_iload_n hx hb dX8_stepsFrom_21 rfl (lv_at hl 3 rfl) ?_
    refine mc_Vi (rest := []) (wr := [(h0, Sum.inr (7, [Value.ref wy1, Value.ref wy2, Value.int qd, Value.ref wy3, Value.ref wy4, Value.int cr])), (wy1, Sum.inl (wc1, 100, Sum.inl s1))]) F hK hP hD hS hA (c_has_any l D rv q1 q2 q3 q4 q5 q6 w h (nI i) (nI j) (by omega) (by omega)) ⟨gk_X8_127.1, gk_X8_127.2, Nat.le_of_ble_eq_true rfl, Nat.le_of_ble_eq_true rfl⟩ [2] [0, 1] [] ⟨rfl, rfl, rfl, rfl, by decide⟩ rfl xT_move (fun _ _ _ => trivial) 2 rfl rfl rfl hl.1 rfl (Nat.le_of_ble_eq_true rfl) dX8_stepsFrom_22 ⟨Nat.le_of_ble_eq_true rfl, Nat.le_of_ble_eq_true rfl⟩ (fun r_4 _ H locs hw hK1 hP hD hS => ?_)
    have hP : va_P D vwCl [(h0, Sum.inr (7, [Value.ref wy1, Value.ref wy2, Value.int qd, Value.ref wy3, Value.ref wy4, Value.int cr])), (wy1, Sum.inl (wc1, 100, Sum.inl s1)), (rv, Sum.inr (5, [Value.int (nI w), Value.int (nI h), Value.ref q1, Value.ref q2, Value.ref q3, Value.ref q4, Value.ref q5, Value.ref q6]))] H := hP
    have hD : va_D A [(h0, Sum.inr (7, [Value.ref wy1, Value.ref wy2, Value.int qd, Value.ref wy3, Value.ref wy4, Value.int cr])), (wy1, Sum.inl (wc1, 100, Sum.inl s1)), (rv, Sum.inr (5, [Value.int (nI w), Value.int (nI h), Value.ref q1, Value.ref q2, Value.ref q3, Value.ref q4, Value.ref q5, Value.ref q6]))] := hD
    have hw_5 : r_4 = (if ((nI i) < 0 ∨ ¬ (nI i) < nI w ∨ (nI j) < 0 ∨ ¬ (nI j) < nI h) then 0 else 1) := hw
    obtain rfl : r_4 = 1 := by rw [hw_5, if_neg (out_in (by omega) (by omega) (by omega) (by omega))]
    refine lv_if_ne (tgt := 30) hx hb dX8_stepsFrom_25 (by decide) (fun c_6 => ?_) (fun c_6 => absurd c_6 (by decide))
    refine lv_aload_n hx hb dX8_stepsFrom_30 rfl (lv_at hl 0 rfl) ?_
    refine lv_aload_n hx hb dX8_stepsFrom_31 rfl (lv_at hl 1 rfl) ?_
    refine lv_iload_n hx hb dX8_stepsFrom_32 rfl (lv_at hl 2 rfl) ?_
    refine lv_iconst (v := 1) hx hb dX8_stepsFrom_33 (by decide) ?_
    refine lv_isub hx hb dX8_stepsFrom_34 ?_
    refine lv_topi (fun z_7 ez_7 => ?_)
    have hZz_7 : z_7.toInt = ((i : Nat) : Int) - (1 : Int) := by rw [ez_7]; exact z_sub (nI_toInt (by omega)) (by decide) (by omega) (by omega)
    refine lv_iload_n hx hb dX8_stepsFrom_35 rfl (lv_at hl 3 rfl) ?_
    refine mc_Vi (rest := []) (wr := []) F hK hP hD hS hA (s_stepsAt l D h0 rv wy1 wy2 wy3 wy4 wc1 s1 qd cr q1 q2 q3 q4 q5 q6 w h z_7 (nI j) (by omega) (by omega)) ⟨gk_X8_124.1, gk_X8_124.2, Nat.le_of_ble_eq_true rfl, Nat.le_of_ble_eq_true rfl⟩ [0, 1, 2] [] [0] ⟨rfl, rfl, rfl, rfl, by decide⟩ rfl xT_move (fun _ _ _ => trivial) 0 rfl rfl rfl hl.1 rfl (Nat.le_of_ble_eq_true rfl) dX8_stepsFrom_36 ⟨Nat.le_of_ble_eq_true rfl, Nat.le_of_ble_eq_true rfl⟩ (fun r_8 _ H locs hw hK1 hP hD hS => ?_)
    have hP : va_P D vwCl [(h0, Sum.inr (7, [Value.ref wy1, Value.ref wy2, Value.int qd, Value.ref wy3, Value.ref wy4, Value.int cr])), (wy1, Sum.inl (wc1, 100, Sum.inl s1)), (rv, Sum.inr (5, [Value.int (nI w), Value.int (nI h), Value.ref q1, Value.ref q2, Value.ref q3, Value.ref q4, Value.ref q5, Value.ref q6]))] H := hP
    have hD : va_D A [(h0, Sum.inr (7, [Value.ref wy1, Value.ref wy2, Value.int qd, Value.ref wy3, Value.ref wy4, Value.int cr])), (wy1, Sum.inl (wc1, 100, Sum.inl s1)), (rv, Sum.inr (5, [Value.int (nI w), Value.int (nI h), Value.ref q1, Value.ref q2, Value.ref q3, Value.ref q4, Value.ref q5, Value.ref q6]))] := hD
    have hw_9 : ((z_7 < 0 ∨ ¬ z_7 < nI w ∨ (nI j) < 0 ∨ ¬ (nI j) < nI h) ∧ r_8 = (-1)) ∨ (¬ (z_7 < 0 ∨ ¬ z_7 < nI w ∨ (nI j) < 0 ∨ ¬ (nI j) < nI h) ∧ r_8 = s1 (cl z_7 (nI j))) := hw
    refine lv_aload_n hx hb dX8_stepsFrom_39 rfl (lv_at hl 0 rfl) ?_
    refine lv_aload_n hx hb dX8_stepsFrom_40 rfl (lv_at hl 1 rfl) ?_
    refine lv_iload_n hx hb dX8_stepsFrom_41 rfl (lv_at hl 2 rfl) ?_
    refine lv_iconst (v := 1) hx hb dX8_stepsFrom_42 (by decide) ?_
    refine lv_iadd hx hb dX8_stepsFrom_43 ?_
    refine lv_topi (fun z_10 ez_10 => ?_)
    obtain rfl : z_10 = nI (i + 1) := ez_10.trans (nI_add i 1)
    refine lv_iload_n hx hb dX8_stepsFrom_44 rfl (lv_at hl 3 rfl) ?_
    refine mc_Vi (rest := [Value.int r_8]) (wr := []) F hK hP hD hS hA (s_stepsAt l D h0 rv wy1 wy2 wy3 wy4 wc1 s1 qd cr q1 q2 q3 q4 q5 q6 w h (nI (i + 1)) (nI j) (by omega) (by omega)) ⟨gk_X8_124.1, gk_X8_124.2, Nat.le_of_ble_eq_true rfl, Nat.le_of_ble_eq_true rfl⟩ [0, 1, 2] [] [0] ⟨rfl, rfl, rfl, rfl, by decide⟩ rfl xT_move (fun _ _ _ => trivial) 0 rfl rfl rfl hl.1 rfl (Nat.le_of_ble_eq_true rfl) dX8_stepsFrom_45 ⟨Nat.le_of_ble_eq_true rfl, Nat.le_of_ble_eq_true rfl⟩ (fun r_11 _ H locs hw hK1 hP hD hS => ?_)
    have hP : va_P D vwCl [(h0, Sum.inr (7, [Value.ref wy1, Value.ref wy2, Value.int qd, Value.ref wy3, Value.ref wy4, Value.int cr])), (wy1, Sum.inl (wc1, 100, Sum.inl s1)), (rv, Sum.inr (5, [Value.int (nI w), Value.int (nI h), Value.ref q1, Value.ref q2, Value.ref q3, Value.ref q4, Value.ref q5, Value.ref q6]))] H := hP
    have hD : va_D A [(h0, Sum.inr (7, [Value.ref wy1, Value.ref wy2, Value.int qd, Value.ref wy3, Value.ref wy4, Value.int cr])), (wy1, Sum.inl (wc1, 100, Sum.inl s1)), (rv, Sum.inr (5, [Value.int (nI w), Value.int (nI h), Value.ref q1, Value.ref q2, Value.ref q3, Value.ref q4, Value.ref q5, Value.ref q6]))] := hD
    have hw_12 : (((nI (i + 1)) < 0 ∨ ¬ (nI (i + 1)) < nI w ∨ (nI j) < 0 ∨ ¬ (nI j) < nI h) ∧ r_11 = (-1)) ∨ (¬ ((nI (i + 1)) < 0 ∨ ¬ (nI (i + 1)) < nI w ∨ (nI j) < 0 ∨ ¬ (nI j) < nI h) ∧ r_11 = s1 (cl (nI (i + 1)) (nI j))) := hw
    refine mc_Si (rest := []) (wr := [(h0, Sum.inr (7, [Value.ref wy1, Value.ref wy2, Value.int qd, Value.ref wy3, Value.ref wy4, Value.int cr])), (wy1, Sum.inl (wc1, 100, Sum.inl s1)), (rv, Sum.inr (5, [Value.int (nI w), Value.int (nI h), Value.ref q1, Value.ref q2, Value.ref q3, Value.ref q4, Value.ref q5, Value.ref q6]))]) F hK hP hD hS hA (s_nearer l D r_8 r_11 ) ⟨gk_X8_59.1, gk_X8_59.2, Nat.le_of_ble_eq_true rfl, Nat.le_of_ble_eq_true rfl⟩ [] [0, 1, 2] [] ⟨rfl, rfl, rfl, rfl, by decide⟩ rfl xT_move (fun _ _ _ => trivial) rfl hl.1 rfl (Nat.le_of_ble_eq_true rfl) dX8_stepsFrom_48 ⟨Nat.le_of_ble_eq_true rfl, Nat.le_of_ble_eq_true rfl⟩ (fun r_13 _ H locs hw hK1 hP hD hS => ?_)
    have hP : va_P D vwCl [(h0, Sum.inr (7, [Value.ref wy1, Value.ref wy2, Value.int qd, Value.ref wy3, Value.ref wy4, Value.int cr])), (wy1, Sum.inl (wc1, 100, Sum.inl s1)), (rv, Sum.inr (5, [Value.int (nI w), Value.int (nI h), Value.ref q1, Value.ref q2, Value.ref q3, Value.ref q4, Value.ref q5, Value.ref q6]))] H := hP
    have hD : va_D A [(h0, Sum.inr (7, [Value.ref wy1, Value.ref wy2, Value.int qd, Value.ref wy3, Value.ref wy4, Value.int cr])), (wy1, Sum.inl (wc1, 100, Sum.inl s1)), (rv, Sum.inr (5, [Value.int (nI w), Value.int (nI h), Value.ref q1, Value.ref q2, Value.ref q3, Value.ref q4, Value.ref q5, Value.ref q6]))] := hD
    have hw_14 : r_13 = nrI r_8 r_11 := hw
    refine lv_istore (lv' := [(4, Value.int r_13), (0, Value.ref h0), (1, Value.ref rv), (2, Value.int (nI i)), (3, Value.int (nI j))]) hx hb dX8_stepsFrom_51 hl (by decide) rfl (fun ls hl => ?_)
    refine lv_iload hx hb dX8_stepsFrom_53 (lv_at hl 0 rfl) ?_
    refine lv_aload_n hx hb dX8_stepsFrom_55 rfl (lv_at hl 1 rfl) ?_
    refine lv_aload_n hx hb dX8_stepsFrom_56 rfl (lv_at hl 2 rfl) ?_
    refine lv_iload_n hx hb dX8_stepsFrom_57 rfl (lv_at hl 3 rfl) ?_
    refine lv_iload_n hx hb dX8_stepsFrom_58 rfl (lv_at hl 4 rfl) ?_
    refine lv_iconst (v := 1) hx hb dX8_stepsFrom_59 (by decide) ?_
    refine lv_isub hx hb dX8_stepsFrom_60 ?_
    refine lv_topi (fun z_15 ez_15 => ?_)
    have hZz_15 : z_15.toInt = ((j : Nat) : Int) - (1 : Int) := by rw [ez_15]; exact z_sub (nI_toInt (by omega)) (by decide) (by omega) (by omega)
    refine mc_Vi (rest := [Value.int r_13]) (wr := []) F hK hP hD hS hA (s_stepsAt l D h0 rv wy1 wy2 wy3 wy4 wc1 s1 qd cr q1 q2 q3 q4 q5 q6 w h (nI i) z_15 (by omega) (by omega)) ⟨gk_X8_124.1, gk_X8_124.2, Nat.le_of_ble_eq_true rfl, Nat.le_of_ble_eq_true rfl⟩ [0, 1, 2] [] [0] ⟨rfl, rfl, rfl, rfl, by decide⟩ rfl xT_move (fun _ _ _ => trivial) 0 rfl rfl rfl hl.1 rfl (Nat.le_of_ble_eq_true rfl) dX8_stepsFrom_61 ⟨Nat.le_of_ble_eq_true rfl, Nat.le_of_ble_eq_true rfl⟩ (fun r_16 _ H locs hw hK1 hP hD hS => ?_)
    have hP : va_P D vwCl [(h0, Sum.inr (7, [Value.ref wy1, Value.ref wy2, Value.int qd, Value.ref wy3, Value.ref wy4, Value.int cr])), (wy1, Sum.inl (wc1, 100, Sum.inl s1)), (rv, Sum.inr (5, [Value.int (nI w), Value.int (nI h), Value.ref q1, Value.ref q2, Value.ref q3, Value.ref q4, Value.ref q5, Value.ref q6]))] H := hP
    have hD : va_D A [(h0, Sum.inr (7, [Value.ref wy1, Value.ref wy2, Value.int qd, Value.ref wy3, Value.ref wy4, Value.int cr])), (wy1, Sum.inl (wc1, 100, Sum.inl s1)), (rv, Sum.inr (5, [Value.int (nI w), Value.int (nI h), Value.ref q1, Value.ref q2, Value.ref q3, Value.ref q4, Value.ref q5, Value.ref q6]))] := hD
    have hw_17 : (((nI i) < 0 ∨ ¬ (nI i) < nI w ∨ z_15 < 0 ∨ ¬ z_15 < nI h) ∧ r_16 = (-1)) ∨ (¬ ((nI i) < 0 ∨ ¬ (nI i) < nI w ∨ z_15 < 0 ∨ ¬ z_15 < nI h) ∧ r_16 = s1 (cl (nI i) z_15)) := hw
    refine lv_aload_n hx hb dX8_stepsFrom_64 rfl (lv_at hl 1 rfl) ?_
    refine lv_aload_n hx hb dX8_stepsFrom_65 rfl (lv_at hl 2 rfl) ?_
    refine lv_iload_n hx hb dX8_stepsFrom_66 rfl (lv_at hl 3 rfl) ?_
    refine lv_iload_n hx hb dX8_stepsFrom_67 rfl (lv_at hl 4 rfl) ?_
    refine lv_iconst (v := 1) hx hb dX8_stepsFrom_68 (by decide) ?_
    refine lv_iadd hx hb dX8_stepsFrom_69 ?_
    refine lv_topi (fun z_18 ez_18 => ?_)
    obtain rfl : z_18 = nI (j + 1) := ez_18.trans (nI_add j 1)
    refine mc_Vi (rest := [Value.int r_16, Value.int r_13]) (wr := []) F hK hP hD hS hA (s_stepsAt l D h0 rv wy1 wy2 wy3 wy4 wc1 s1 qd cr q1 q2 q3 q4 q5 q6 w h (nI i) (nI (j + 1)) (by omega) (by omega)) ⟨gk_X8_124.1, gk_X8_124.2, Nat.le_of_ble_eq_true rfl, Nat.le_of_ble_eq_true rfl⟩ [0, 1, 2] [] [0] ⟨rfl, rfl, rfl, rfl, by decide⟩ rfl xT_move (fun _ _ _ => trivial) 0 rfl rfl rfl hl.1 rfl (Nat.le_of_ble_eq_true rfl) dX8_stepsFrom_70 ⟨Nat.le_of_ble_eq_true rfl, Nat.le_of_ble_eq_true rfl⟩ (fun r_19 _ H locs hw hK1 hP hD hS => ?_)
    have hP : va_P D vwCl [(h0, Sum.inr (7, [Value.ref wy1, Value.ref wy2, Value.int qd, Value.ref wy3, Value.ref wy4, Value.int cr])), (wy1, Sum.inl (wc1, 100, Sum.inl s1)), (rv, Sum.inr (5, [Value.int (nI w), Value.int (nI h), Value.ref q1, Value.ref q2, Value.ref q3, Value.ref q4, Value.ref q5, Value.ref q6]))] H := hP
    have hD : va_D A [(h0, Sum.inr (7, [Value.ref wy1, Value.ref wy2, Value.int qd, Value.ref wy3, Value.ref wy4, Value.int cr])), (wy1, Sum.inl (wc1, 100, Sum.inl s1)), (rv, Sum.inr (5, [Value.int (nI w), Value.int (nI h), Value.ref q1, Value.ref q2, Value.ref q3, Value.ref q4, Value.ref q5, Value.ref q6]))] := hD
    have hw_20 : (((nI i) < 0 ∨ ¬ (nI i) < nI w ∨ (nI (j + 1)) < 0 ∨ ¬ (nI (j + 1)) < nI h) ∧ r_19 = (-1)) ∨ (¬ ((nI i) < 0 ∨ ¬ (nI i) < nI w ∨ (nI (j + 1)) < 0 ∨ ¬ (nI (j + 1)) < nI h) ∧ r_19 = s1 (cl (nI i) (nI (j + 1)))) := hw
    refine mc_Si (rest := [Value.int r_13]) (wr := [(h0, Sum.inr (7, [Value.ref wy1, Value.ref wy2, Value.int qd, Value.ref wy3, Value.ref wy4, Value.int cr])), (wy1, Sum.inl (wc1, 100, Sum.inl s1)), (rv, Sum.inr (5, [Value.int (nI w), Value.int (nI h), Value.ref q1, Value.ref q2, Value.ref q3, Value.ref q4, Value.ref q5, Value.ref q6]))]) F hK hP hD hS hA (s_nearer l D r_16 r_19 ) ⟨gk_X8_59.1, gk_X8_59.2, Nat.le_of_ble_eq_true rfl, Nat.le_of_ble_eq_true rfl⟩ [] [0, 1, 2] [] ⟨rfl, rfl, rfl, rfl, by decide⟩ rfl xT_move (fun _ _ _ => trivial) rfl hl.1 rfl (Nat.le_of_ble_eq_true rfl) dX8_stepsFrom_73 ⟨Nat.le_of_ble_eq_true rfl, Nat.le_of_ble_eq_true rfl⟩ (fun r_21 _ H locs hw hK1 hP hD hS => ?_)
    have hP : va_P D vwCl [(h0, Sum.inr (7, [Value.ref wy1, Value.ref wy2, Value.int qd, Value.ref wy3, Value.ref wy4, Value.int cr])), (wy1, Sum.inl (wc1, 100, Sum.inl s1)), (rv, Sum.inr (5, [Value.int (nI w), Value.int (nI h), Value.ref q1, Value.ref q2, Value.ref q3, Value.ref q4, Value.ref q5, Value.ref q6]))] H := hP
    have hD : va_D A [(h0, Sum.inr (7, [Value.ref wy1, Value.ref wy2, Value.int qd, Value.ref wy3, Value.ref wy4, Value.int cr])), (wy1, Sum.inl (wc1, 100, Sum.inl s1)), (rv, Sum.inr (5, [Value.int (nI w), Value.int (nI h), Value.ref q1, Value.ref q2, Value.ref q3, Value.ref q4, Value.ref q5, Value.ref q6]))] := hD
    have hw_22 : r_21 = nrI r_16 r_19 := hw
    refine mc_Si (rest := []) (wr := [(h0, Sum.inr (7, [Value.ref wy1, Value.ref wy2, Value.int qd, Value.ref wy3, Value.ref wy4, Value.int cr])), (wy1, Sum.inl (wc1, 100, Sum.inl s1)), (rv, Sum.inr (5, [Value.int (nI w), Value.int (nI h), Value.ref q1, Value.ref q2, Value.ref q3, Value.ref q4, Value.ref q5, Value.ref q6]))]) F hK hP hD hS hA (s_nearer l D r_13 r_21 ) ⟨gk_X8_59.1, gk_X8_59.2, Nat.le_of_ble_eq_true rfl, Nat.le_of_ble_eq_true rfl⟩ [] [0, 1, 2] [] ⟨rfl, rfl, rfl, rfl, by decide⟩ rfl xT_move (fun _ _ _ => trivial) rfl hl.1 rfl (Nat.le_of_ble_eq_true rfl) dX8_stepsFrom_76 ⟨Nat.le_of_ble_eq_true rfl, Nat.le_of_ble_eq_true rfl⟩ (fun r_23 _ H locs hw hK1 hP hD hS => ?_)
    have hP : va_P D vwCl [(h0, Sum.inr (7, [Value.ref wy1, Value.ref wy2, Value.int qd, Value.ref wy3, Value.ref wy4, Value.int cr])), (wy1, Sum.inl (wc1, 100, Sum.inl s1)), (rv, Sum.inr (5, [Value.int (nI w), Value.int (nI h), Value.ref q1, Value.ref q2, Value.ref q3, Value.ref q4, Value.ref q5, Value.ref q6]))] H := hP
    have hD : va_D A [(h0, Sum.inr (7, [Value.ref wy1, Value.ref wy2, Value.int qd, Value.ref wy3, Value.ref wy4, Value.int cr])), (wy1, Sum.inl (wc1, 100, Sum.inl s1)), (rv, Sum.inr (5, [Value.int (nI w), Value.int (nI h), Value.ref q1, Value.ref q2, Value.ref q3, Value.ref q4, Value.ref q5, Value.ref q6]))] := hD
    have hw_24 : r_23 = nrI r_13 r_21 := hw
    refine lv_istore (lv' := [(4, Value.int r_23), (0, Value.ref h0), (1, Value.ref rv), (2, Value.int (nI i)), (3, Value.int (nI j))]) hx hb dX8_stepsFrom_79 hl (by decide) rfl (fun ls hl => ?_)
    refine lv_iload hx hb dX8_stepsFrom_81 (lv_at hl 0 rfl) ?_
    refine lv_iconst (v := -1) hx hb dX8_stepsFrom_83 (by decide) ?_
    refine lv_icmp_ne (tgt := 91) hx hb dX8_stepsFrom_84 (by decide) (fun c_25 => ?_) (fun c_25 => ?_)
    · skip
      refine lv_iload hx hb dX8_stepsFrom_91 (lv_at hl 0 rfl) ?_
      refine lv_iconst (v := 1) hx hb dX8_stepsFrom_93 (by decide) ?_
      refine lv_iadd hx hb dX8_stepsFrom_94 ?_
      refine lv_topi (fun z_26 ez_26 => ?_)
      have hP9 := hP.sub (ws' := [(h0, Sum.inr (7, [Value.ref wy1, Value.ref wy2, Value.int qd, Value.ref wy3, Value.ref wy4, Value.int cr])), (wy1, Sum.inl (wc1, 100, Sum.inl s1)), (rv, Sum.inr (5, [Value.int (nI w), Value.int (nI h), Value.ref q1, Value.ref q2, Value.ref q3, Value.ref q4, Value.ref q5, Value.ref q6]))]) [0, 1, 2] rfl
      have hD9 := hD.sub (ws' := [(h0, Sum.inr (7, [Value.ref wy1, Value.ref wy2, Value.int qd, Value.ref wy3, Value.ref wy4, Value.int cr])), (wy1, Sum.inl (wc1, 100, Sum.inl s1)), (rv, Sum.inr (5, [Value.int (nI w), Value.int (nI h), Value.ref q1, Value.ref q2, Value.ref q3, Value.ref q4, Value.ref q5, Value.ref q6]))]) [0, 1, 2] (by decide) rfl
      have hK9 := hK.sub (tys' := []) [] rfl
      refine W.widen (k := 0) (n := 0) (by decide) (by decide) ?_
      exact W.iret (v := z_26) hx hb hr (fun t ht hW => ⟨⟨z_26, (), rfl, by have q := lsQ_off hsc (c := j * 10 + i) (by omega) (by rw [← hv1]; exact c_3) (nb_four (by omega) (by omega) hZz_7 (by rw [← in_z (x := nI (i + 1)) rfl (by omega)]; omega) hZz_15 (by rw [← in_z (x := nI (j + 1)) rfl (by omega)]; omega) (at_nb (by omega) (by omega) hFm hsc hw_9) (at_nb (by omega) (by omega) hFm hsc hw_12) (at_nb (by omega) (by omega) hFm hsc hw_17) (at_nb (by omega) (by omega) hFm hsc hw_20)); rw [← hw_14, ← hw_22, ← hw_24] at q; rw [if_neg c_25, ← ez_26] at q; exact q, by rw [ht]; exact hP9, va_K.moved hW.alike hK9, hD9⟩, hS.F ht⟩) hS.2.2 dX8_stepsFrom_95
    · skip
      refine lv_iconst (v := -1) hx hb dX8_stepsFrom_87 (by decide) ?_
      refine lv_goto (tgt := 95) hx hb dX8_stepsFrom_88 (by decide) ?_
      have hP9 := hP.sub (ws' := [(h0, Sum.inr (7, [Value.ref wy1, Value.ref wy2, Value.int qd, Value.ref wy3, Value.ref wy4, Value.int cr])), (wy1, Sum.inl (wc1, 100, Sum.inl s1)), (rv, Sum.inr (5, [Value.int (nI w), Value.int (nI h), Value.ref q1, Value.ref q2, Value.ref q3, Value.ref q4, Value.ref q5, Value.ref q6]))]) [0, 1, 2] rfl
      have hD9 := hD.sub (ws' := [(h0, Sum.inr (7, [Value.ref wy1, Value.ref wy2, Value.int qd, Value.ref wy3, Value.ref wy4, Value.int cr])), (wy1, Sum.inl (wc1, 100, Sum.inl s1)), (rv, Sum.inr (5, [Value.int (nI w), Value.int (nI h), Value.ref q1, Value.ref q2, Value.ref q3, Value.ref q4, Value.ref q5, Value.ref q6]))]) [0, 1, 2] (by decide) rfl
      have hK9 := hK.sub (tys' := []) [] rfl
      refine W.widen (k := 0) (n := 0) (by decide) (by decide) ?_
      exact W.iret (v := (-1)) hx hb hr (fun t ht hW => ⟨⟨((-1)), (), rfl, by have q := lsQ_off hsc (c := j * 10 + i) (by omega) (by rw [← hv1]; exact c_3) (nb_four (by omega) (by omega) hZz_7 (by rw [← in_z (x := nI (i + 1)) rfl (by omega)]; omega) hZz_15 (by rw [← in_z (x := nI (j + 1)) rfl (by omega)]; omega) (at_nb (by omega) (by omega) hFm hsc hw_9) (at_nb (by omega) (by omega) hFm hsc hw_12) (at_nb (by omega) (by omega) hFm hsc hw_17) (at_nb (by omega) (by omega) hFm hsc hw_20)); rw [← hw_14, ← hw_22, ← hw_24] at q; rw [if_pos c_25] at q; exact q, by rw [ht]; exact hP9, va_K.moved hW.alike hK9, hD9⟩, hS.F ht⟩) hS.2.2 dX8_stepsFrom_95
  · skip
    refine lv_aload_n hx hb dX8_stepsFrom_11 rfl (lv_at hl 0 rfl) ?_
    refine lv_aload_n hx hb dX8_stepsFrom_12 rfl (lv_at hl 1 rfl) ?_
    refine lv_iload_n hx hb dX8_stepsFrom_13 rfl (lv_at hl 2 rfl) ?_
    refine lv_iload_n hx hb dX8_stepsFrom_14 rfl (lv_at hl 3 rfl) ?_
    refine mc_Vi (rest := []) (wr := []) F hK hP hD hS hA (s_stepsAt l D h0 rv wy1 wy2 wy3 wy4 wc1 s1 qd cr q1 q2 q3 q4 q5 q6 w h (nI i) (nI j) (by omega) (by omega)) ⟨gk_X8_124.1, gk_X8_124.2, Nat.le_of_ble_eq_true rfl, Nat.le_of_ble_eq_true rfl⟩ [0, 1, 2] [] [0] ⟨rfl, rfl, rfl, rfl, by decide⟩ rfl xT_move (fun _ _ _ => trivial) 0 rfl rfl rfl hl.1 rfl (Nat.le_of_ble_eq_true rfl) dX8_stepsFrom_15 ⟨Nat.le_of_ble_eq_true rfl, Nat.le_of_ble_eq_true rfl⟩ (fun r_27 _ H locs hw hK1 hP hD hS => ?_)
    have hP : va_P D vwCl [(h0, Sum.inr (7, [Value.ref wy1, Value.ref wy2, Value.int qd, Value.ref wy3, Value.ref wy4, Value.int cr])), (wy1, Sum.inl (wc1, 100, Sum.inl s1)), (rv, Sum.inr (5, [Value.int (nI w), Value.int (nI h), Value.ref q1, Value.ref q2, Value.ref q3, Value.ref q4, Value.ref q5, Value.ref q6]))] H := hP
    have hD : va_D A [(h0, Sum.inr (7, [Value.ref wy1, Value.ref wy2, Value.int qd, Value.ref wy3, Value.ref wy4, Value.int cr])), (wy1, Sum.inl (wc1, 100, Sum.inl s1)), (rv, Sum.inr (5, [Value.int (nI w), Value.int (nI h), Value.ref q1, Value.ref q2, Value.ref q3, Value.ref q4, Value.ref q5, Value.ref q6]))] := hD
    have hw_28 : (((nI i) < 0 ∨ ¬ (nI i) < nI w ∨ (nI j) < 0 ∨ ¬ (nI j) < nI h) ∧ r_27 = (-1)) ∨ (¬ ((nI i) < 0 ∨ ¬ (nI i) < nI w ∨ (nI j) < 0 ∨ ¬ (nI j) < nI h) ∧ r_27 = s1 (cl (nI i) (nI j))) := hw
    have hv2 : r_27 = s1 (j * 10 + i) := (hw_28.resolve_left (fun q => out_in (by omega) (by omega) (by omega) (by omega) q.1)).2.trans (by rw [cl_nI (by omega) (by omega)])
    have hP9 := hP.sub (ws' := [(h0, Sum.inr (7, [Value.ref wy1, Value.ref wy2, Value.int qd, Value.ref wy3, Value.ref wy4, Value.int cr])), (wy1, Sum.inl (wc1, 100, Sum.inl s1)), (rv, Sum.inr (5, [Value.int (nI w), Value.int (nI h), Value.ref q1, Value.ref q2, Value.ref q3, Value.ref q4, Value.ref q5, Value.ref q6]))]) [0, 1, 2] rfl
    have hD9 := hD.sub (ws' := [(h0, Sum.inr (7, [Value.ref wy1, Value.ref wy2, Value.int qd, Value.ref wy3, Value.ref wy4, Value.int cr])), (wy1, Sum.inl (wc1, 100, Sum.inl s1)), (rv, Sum.inr (5, [Value.int (nI w), Value.int (nI h), Value.ref q1, Value.ref q2, Value.ref q3, Value.ref q4, Value.ref q5, Value.ref q6]))]) [0, 1, 2] (by decide) rfl
    have hK9 := hK.sub (tys' := []) [] rfl
    refine W.widen (k := 0) (n := 0) (by decide) (by decide) ?_
    exact W.iret (v := r_27) hx hb hr (fun t ht hW => ⟨⟨r_27, (), rfl, by rw [hv2]; exact lsQ_at hsc (by omega) (by rw [← hv1]; exact c_3), by rw [ht]; exact hP9, va_K.moved hW.alike hK9, hD9⟩, hS.F ht⟩) hS.2.2 dX8_stepsFrom_18
