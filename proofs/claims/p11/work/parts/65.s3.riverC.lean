set_option maxHeartbeats 4000000 in
set_option maxRecDepth 100000 in
theorem lp_s_crk_in {p : Program} {l : Launch} {e : Env} {s : State} {m : MethodId} {args : Array Value} {below : List Frame} {meth : Method} {c : Code} {Q : State → Prop} {A : Nat → Prop} {D : va_G} (F : mFix p s m args c cX6_hasCrackNearerThan 6 RX6) (hA : ∀ q, s.heap.size ≤ q → A q) (h0 : Nat) (w : Nat) (h : Nat) (q1 : Nat) (q2 : Nat) (q3 : Nat) (q4 : Nat) (q5 : Nat) (q6 : Nat) (cy5 : ClassId) (f5 : Nat → Int32) (fn : Nat) (i : Nat) (j : Nat) (dy : Int32) (hK : va_K D vwCl [(cy5, .boolean)] s)
    (kx_57 : ((∃ c, c % 10 < w ∧ c / 10 < h ∧ ¬ f5 c = 0 ∧ c % 10 < i + fn ∧ i < c % 10 + fn ∧ c / 10 < j + fn ∧ j < c / 10 + fn)) → ∀ (H : Heap) (locs : List Loc), va_P D vwCl [(h0, Sum.inr (5, [Value.int (nI w), Value.int (nI h), Value.ref q1, Value.ref q2, Value.ref q3, Value.ref q4, Value.ref q5, Value.ref q6])), (q5, Sum.inl (cy5, 100, Sum.inl f5))] H → va_D A [(h0, Sum.inr (5, [Value.int (nI w), Value.int (nI h), Value.ref q1, Value.ref q2, Value.ref q3, Value.ref q4, Value.ref q5, Value.ref q6])), (q5, Sum.inl (cy5, 100, Sum.inl f5))] → va_S A s.heap H locs → ∀ ls : Array Slot, lv_has ls 6 [] → W p l e ({ frames := 1, cells := 0, slots := 0, locals := 22 }) s m args below meth c H locs 0 0 Q (F0 m 57 ls []))
    (kx_65 : (∀ c, c % 10 < w → c / 10 < h → ¬ f5 c = 0 → ((c / 10 : Nat) : Int) < j + dy.toInt + 1 → c % 10 < i + fn → i < c % 10 + fn → c / 10 < j + fn → j < c / 10 + fn → False) → ∀ (H : Heap) (locs : List Loc), va_P D vwCl [(h0, Sum.inr (5, [Value.int (nI w), Value.int (nI h), Value.ref q1, Value.ref q2, Value.ref q3, Value.ref q4, Value.ref q5, Value.ref q6])), (q5, Sum.inl (cy5, 100, Sum.inl f5))] H → va_D A [(h0, Sum.inr (5, [Value.int (nI w), Value.int (nI h), Value.ref q1, Value.ref q2, Value.ref q3, Value.ref q4, Value.ref q5, Value.ref q6])), (q5, Sum.inl (cy5, 100, Sum.inl f5))] → va_S A s.heap H locs → ∀ ls : Array Slot, lv_has ls 6 [(0, Value.ref h0), (1, Value.int (nI fn)), (2, Value.int (nI i)), (3, Value.int (nI j)), (4, Value.int dy)] → W p l e ({ frames := 1, cells := 0, slots := 0, locals := 22 }) s m args below meth c H locs 0 0 Q (F0 m 65 ls [])) :
    ∀ n : Nat, ∀ (dx : Int32), (w ≤ 10) → (h ≤ 10) → (i < w) → (j < h) → (fn ≤ 9) → (1 - (fn : Int) ≤ dy.toInt ∧ dy.toInt ≤ 10) → (dy.toInt < (fn : Int)) → (1 - (fn : Int) ≤ dx.toInt ∧ dx.toInt ≤ 10) → (∀ c, c % 10 < w → c / 10 < h → ¬ f5 c = 0 → ((c / 10 : Nat) : Int) < j + dy.toInt → c % 10 < i + fn → i < c % 10 + fn → c / 10 < j + fn → j < c / 10 + fn → False) → (∀ c, c % 10 < w → c / 10 < h → ¬ f5 c = 0 → ((c / 10 : Nat) : Int) = j + dy.toInt → ((c % 10 : Nat) : Int) < i + dx.toInt → c % 10 < i + fn → i < c % 10 + fn → c / 10 < j + fn → j < c / 10 + fn → False) → ((20 - dx.toInt).toNat) < n → ∀ (H : Heap) (locs : List Loc), va_P D vwCl [(h0, Sum.inr (5, [Value.int (nI w), Value.int (nI h), Value.ref q1, Value.ref q2, Value.ref q3, Value.ref q4, Value.ref q5, Value.ref q6])), (q5, Sum.inl (cy5, 100, Sum.inl f5))] H → va_D A [(h0, Sum.inr (5, [Value.int (nI w), Value.int (nI h), Value.ref q1, Value.ref q2, Value.ref q3, Value.ref q4, Value.ref q5, Value.ref q6])), (q5, Sum.inl (cy5, 100, Sum.inl f5))] → va_S A s.heap H locs → ∀ ls : Array Slot, lv_has ls 6 [(0, Value.ref h0), (1, Value.int (nI fn)), (2, Value.int (nI i)), (3, Value.int (nI j)), (4, Value.int dy), (5, Value.int dx)] → W p l e ({ frames := 1, cells := 0, slots := 0, locals := 22 }) s m args below meth c H locs 0 0 Q (F0 m 16 ls []) := by
  intro n
  induction n with
  | zero => intro dx h3 h4 hi hj hfn hdy1 hdy2 hdx1 hn1 hn2 hn; exact absurd hn (Nat.not_lt_zero _)
  | succ n ih =>
    intro dx h3 h4 hi hj hfn hdy1 hdy2 hdx1 hn1 hn2 hn H locs hP hD hS ls hl
    obtain ⟨hx, hb, hml, hown, hts⟩ := id F
    refine lv_iload hx hb dX6_hasCrackNearerThan_16 (lv_at hl 5 rfl) ?_
    refine lv_iload_n hx hb dX6_hasCrackNearerThan_18 rfl (lv_at hl 1 rfl) ?_
    refine lv_icmp_ge (tgt := 65) hx hb dX6_hasCrackNearerThan_19 (by decide) (fun c_1 => ?_) (fun c_1 => ?_)
    · skip
      have c_1 := Int32.not_lt.mpr c_1
      have c_1z : ((fn : Nat) : Int) ≤ dx.toInt := z_nlt rfl (nI_toInt (by omega)) c_1
      exact kx_65  (fun c q1 q2 q3 q4 q6 q7 q8 q9 => by by_cases r9 : ((c / 10 : Nat) : Int) < j + dy.toInt; exact hn1 c q1 q2 q3 r9 q6 q7 q8 q9; exact hn2 c q1 q2 q3 (by omega) (by omega) q6 q7 q8 q9) H locs (hP.sub [0, 1] rfl) (hD.sub [0, 1] (by decide) rfl) hS ls (lv_sub hl [0, 1, 2, 3, 4] rfl)
    · skip
      have c_1 := Int32.not_le.mp c_1
      have c_1z : dx.toInt < ((fn : Nat) : Int) := z_lt rfl (nI_toInt (by omega)) c_1
      refine lv_aload_n hx hb dX6_hasCrackNearerThan_22 rfl (lv_at hl 0 rfl) ?_
      refine lv_iload_n hx hb dX6_hasCrackNearerThan_23 rfl (lv_at hl 2 rfl) ?_
      refine lv_iload hx hb dX6_hasCrackNearerThan_24 (lv_at hl 5 rfl) ?_
      refine lv_iadd hx hb dX6_hasCrackNearerThan_26 ?_
      refine lv_topi (fun z_2 ez_2 => ?_)
      have hZz_2 : z_2.toInt = ((i : Nat) : Int) + dx.toInt := by rw [ez_2]; exact z_add (nI_toInt (by omega)) rfl (by omega) (by omega)
      refine lv_iload_n hx hb dX6_hasCrackNearerThan_27 rfl (lv_at hl 3 rfl) ?_
      refine lv_iload hx hb dX6_hasCrackNearerThan_28 (lv_at hl 4 rfl) ?_
      refine lv_iadd hx hb dX6_hasCrackNearerThan_30 ?_
      refine lv_topi (fun z_3 ez_3 => ?_)
      have hZz_3 : z_3.toInt = ((j : Nat) : Int) + dy.toInt := by rw [ez_3]; exact z_add (nI_toInt (by omega)) rfl (by omega) (by omega)
      refine mc_Vi (rest := []) (wr := [(q5, Sum.inl (cy5, 100, Sum.inl f5))]) F hK hP hD hS hA (c_has_any l D h0 q1 q2 q3 q4 q5 q6 w h z_2 z_3 (by omega) (by omega)) ⟨gk_X6_42.1, gk_X6_42.2, Nat.le_of_ble_eq_true rfl, Nat.le_of_ble_eq_true rfl⟩ [0] [1] [] ⟨rfl, rfl, rfl, rfl, by decide⟩ rfl xT_move (fun _ _ _ => trivial) 0 rfl rfl rfl hl.1 rfl (Nat.le_of_ble_eq_true rfl) dX6_hasCrackNearerThan_31 ⟨Nat.le_of_ble_eq_true rfl, Nat.le_of_ble_eq_true rfl⟩ (fun r_4 _ H locs hw hK1 hP hD hS => ?_)
      have hP : va_P D vwCl [(q5, Sum.inl (cy5, 100, Sum.inl f5)), (h0, Sum.inr (5, [Value.int (nI w), Value.int (nI h), Value.ref q1, Value.ref q2, Value.ref q3, Value.ref q4, Value.ref q5, Value.ref q6]))] H := hP
      have hD : va_D A [(q5, Sum.inl (cy5, 100, Sum.inl f5)), (h0, Sum.inr (5, [Value.int (nI w), Value.int (nI h), Value.ref q1, Value.ref q2, Value.ref q3, Value.ref q4, Value.ref q5, Value.ref q6]))] := hD
      have hw_5 : r_4 = (if (z_2 < 0 ∨ ¬ z_2 < nI w ∨ z_3 < 0 ∨ ¬ z_3 < nI h) then 0 else 1) := hw
      by_cases ho_6 : (z_2 < 0 ∨ ¬ z_2 < nI w ∨ z_3 < 0 ∨ ¬ z_3 < nI h)
      · skip
        obtain rfl : r_4 = 0 := by rw [hw_5, if_pos ho_6]
        have hzo := out_z (by omega) (by omega) ho_6
        refine lv_if_eq (tgt := 59) hx hb dX6_hasCrackNearerThan_34 (by decide) (fun c_7 => ?_) (fun c_7 => absurd c_7 (by decide))
        obtain ⟨z_8, ez_8⟩ : ∃ y : Int32, y = dx + 1 := ⟨_, rfl⟩
        have hZz_8 : z_8.toInt = dx.toInt + (1 : Int) := by rw [ez_8]; exact z_add rfl (by decide) (by omega) (by omega)
        refine lv_iinc (v := z_8) (lv' := [(5, Value.int z_8), (0, Value.ref h0), (1, Value.int (nI fn)), (2, Value.int (nI i)), (3, Value.int (nI j)), (4, Value.int dy)]) hx hb dX6_hasCrackNearerThan_59 hl (k := 5) rfl (by rw [ez_8]; rfl) (by decide) rfl (fun ls hl => ?_)
        refine lv_goto (tgt := 16) hx hb dX6_hasCrackNearerThan_62 (by decide) ?_
        exact ih z_8 (by omega) (by omega) (by omega) (by omega) (by omega) hdy1 hdy2 (by omega) hn1 (fun c q1 q2 q3 q4 q5 q6 q7 q8 q9 => by by_cases r9 : ((c % 10 : Nat) : Int) < i + dx.toInt; exact hn2 c q1 q2 q3 q4 r9 q6 q7 q8 q9; omega) (by omega) H locs (hP.sub [1, 0] rfl) (hD.sub [1, 0] (by decide) rfl) hS ls (lv_sub hl [1, 2, 3, 4, 5, 0] rfl)
      · skip
        obtain rfl : r_4 = 1 := by rw [hw_5, if_neg ho_6]
        obtain ⟨i_9, hi_9, ei_9⟩ : ∃ j : Nat, j < w ∧ z_2 = nI j := n_lt (fun q => ho_6 (Or.inl q)) (fun q => ho_6 (Or.inr (Or.inl (Int32.not_lt.mpr q)))) (by omega)
        obtain ⟨j_10, hj_10, ej_10⟩ : ∃ j : Nat, j < h ∧ z_3 = nI j := n_lt (fun q => ho_6 (Or.inr (Or.inr (Or.inl q)))) (fun q => ho_6 (Or.inr (Or.inr (Or.inr (Int32.not_lt.mpr q))))) (by omega)
        have hzi_9 := in_z ei_9 (by omega)
        have hzj_10 := in_z ej_10 (by omega)
        subst ei_9
        subst ej_10
        have hcl : cl (nI i_9) (nI j_10) = j_10 * 10 + i_9 := cl_nI (by omega) (by omega)
        have hl : lv_has ls 6 [(0, Value.ref h0), (1, Value.int (nI fn)), (2, Value.int (nI i)), (3, Value.int (nI j)), (4, Value.int dy), (5, Value.int dx)] := hl
        refine lv_if_eq (tgt := 59) hx hb dX6_hasCrackNearerThan_34 (by decide) (fun c_11 => absurd c_11 (by decide)) (fun c_11 => ?_)
        refine lv_aload_n hx hb dX6_hasCrackNearerThan_37 rfl (lv_at hl 0 rfl) ?_
        refine va_get (D := D) (ci := 5) (v := Value.ref q5) (C := RX6) (T := TX6) (N := 8) hx hb hts inG_X6 hown hK hP 1 rfl rfl 6 (by decide) (hts _ kw_1_157) (fun _ h9 => h9) rfl dX6_hasCrackNearerThan_38 ?_
        refine lv_aload_n hx hb dX6_hasCrackNearerThan_41 rfl (lv_at hl 0 rfl) ?_
        refine lv_iload_n hx hb dX6_hasCrackNearerThan_42 rfl (lv_at hl 2 rfl) ?_
        refine lv_iload hx hb dX6_hasCrackNearerThan_43 (lv_at hl 5 rfl) ?_
        refine lv_iadd hx hb dX6_hasCrackNearerThan_45 ?_
        refine lv_topi (fun z_12 ez_12 => ?_)
        obtain rfl : z_12 = nI i_9 := ez_12.trans ez_2.symm
        refine lv_iload_n hx hb dX6_hasCrackNearerThan_46 rfl (lv_at hl 3 rfl) ?_
        refine lv_iload hx hb dX6_hasCrackNearerThan_47 (lv_at hl 4 rfl) ?_
        refine lv_iadd hx hb dX6_hasCrackNearerThan_49 ?_
        refine lv_topi (fun z_13 ez_13 => ?_)
        obtain rfl : z_13 = nI j_10 := ez_13.trans ez_3.symm
        refine mc_Vi (rest := [Value.ref q5]) (wr := [(q5, Sum.inl (cy5, 100, Sum.inl f5))]) F hK hP hD hS hA (c_spotOf l D h0 q1 q2 q3 q4 q5 q6 w h i_9 j_10 ) ⟨gk_X6_46.1, gk_X6_46.2, Nat.le_of_ble_eq_true rfl, Nat.le_of_ble_eq_true rfl⟩ [1] [0] [] ⟨rfl, rfl, rfl, rfl, by decide⟩ rfl xT_move (fun _ _ _ => trivial) 1 rfl rfl rfl hl.1 rfl (Nat.le_of_ble_eq_true rfl) dX6_hasCrackNearerThan_50 ⟨Nat.le_of_ble_eq_true rfl, Nat.le_of_ble_eq_true rfl⟩ (fun r_14 _ H locs hw hK1 hP hD hS => ?_)
        have hP : va_P D vwCl [(q5, Sum.inl (cy5, 100, Sum.inl f5)), (h0, Sum.inr (5, [Value.int (nI w), Value.int (nI h), Value.ref q1, Value.ref q2, Value.ref q3, Value.ref q4, Value.ref q5, Value.ref q6]))] H := hP
        have hD : va_D A [(q5, Sum.inl (cy5, 100, Sum.inl f5)), (h0, Sum.inr (5, [Value.int (nI w), Value.int (nI h), Value.ref q1, Value.ref q2, Value.ref q3, Value.ref q4, Value.ref q5, Value.ref q6]))] := hD
        have hw_15 : r_14 = nI (j_10 * 10 + i_9) := hw
        obtain rfl : r_14 = nI (j_10 * 10 + i_9) := hw_15
        refine m_zald hx hb hK hP 0 0 rfl rfl (j_10 * 10 + i_9) rfl (by omega) (by decide) dX6_hasCrackNearerThan_53 ?_
        refine lv_topi (fun v_16 ev_16 => ?_)
        refine lv_if_eq (tgt := 59) hx hb dX6_hasCrackNearerThan_54 (by decide) (fun c_17 => ?_) (fun c_17 => ?_)
        · skip
          obtain ⟨z_18, ez_18⟩ : ∃ y : Int32, y = dx + 1 := ⟨_, rfl⟩
          have hZz_18 : z_18.toInt = dx.toInt + (1 : Int) := by rw [ez_18]; exact z_add rfl (by decide) (by omega) (by omega)
          refine lv_iinc (v := z_18) (lv' := [(5, Value.int z_18), (0, Value.ref h0), (1, Value.int (nI fn)), (2, Value.int (nI i)), (3, Value.int (nI j)), (4, Value.int dy)]) hx hb dX6_hasCrackNearerThan_59 hl (k := 5) rfl (by rw [ez_18]; rfl) (by decide) rfl (fun ls hl => ?_)
          refine lv_goto (tgt := 16) hx hb dX6_hasCrackNearerThan_62 (by decide) ?_
          exact ih z_18 (by omega) (by omega) (by omega) (by omega) (by omega) hdy1 hdy2 (by omega) hn1 (fun c q1 q2 q3 q4 q5 q6 q7 q8 q9 => by by_cases r9 : ((c % 10 : Nat) : Int) < i + dx.toInt; exact hn2 c q1 q2 q3 q4 r9 q6 q7 q8 q9; exact q3 (by rw [show c = j_10 * 10 + i_9 by omega, ← ev_16]; exact c_17)) (by omega) H locs (hP.sub [1, 0] rfl) (hD.sub [1, 0] (by decide) rfl) hS ls (lv_sub hl [1, 2, 3, 4, 5, 0] rfl)
        · skip
          exact kx_57  (⟨j_10 * 10 + i_9, by omega, by omega, (fun q => c_17 (by rw [ev_16]; exact q)), by omega, by omega, by omega, by omega⟩) H locs (hP.sub [1, 0] rfl) (hD.sub [1, 0] (by decide) rfl) hS ls (lv_sub hl [] rfl)
set_option maxHeartbeats 4000000 in
set_option maxRecDepth 100000 in
theorem lp_s_crk_out {p : Program} {l : Launch} {e : Env} {s : State} {m : MethodId} {args : Array Value} {below : List Frame} {meth : Method} {c : Code} {Q : State → Prop} {A : Nat → Prop} {D : va_G} (F : mFix p s m args c cX6_hasCrackNearerThan 6 RX6) (hA : ∀ q, s.heap.size ≤ q → A q) (h0 : Nat) (w : Nat) (h : Nat) (q1 : Nat) (q2 : Nat) (q3 : Nat) (q4 : Nat) (q5 : Nat) (q6 : Nat) (cy5 : ClassId) (f5 : Nat → Int32) (fn : Nat) (i : Nat) (j : Nat) (hK : va_K D vwCl [(cy5, .boolean)] s)
    (kx_57 : ((∃ c, c % 10 < w ∧ c / 10 < h ∧ ¬ f5 c = 0 ∧ c % 10 < i + fn ∧ i < c % 10 + fn ∧ c / 10 < j + fn ∧ j < c / 10 + fn)) → ∀ (H : Heap) (locs : List Loc), va_P D vwCl [(h0, Sum.inr (5, [Value.int (nI w), Value.int (nI h), Value.ref q1, Value.ref q2, Value.ref q3, Value.ref q4, Value.ref q5, Value.ref q6])), (q5, Sum.inl (cy5, 100, Sum.inl f5))] H → va_D A [(h0, Sum.inr (5, [Value.int (nI w), Value.int (nI h), Value.ref q1, Value.ref q2, Value.ref q3, Value.ref q4, Value.ref q5, Value.ref q6])), (q5, Sum.inl (cy5, 100, Sum.inl f5))] → va_S A s.heap H locs → ∀ ls : Array Slot, lv_has ls 6 [] → W p l e ({ frames := 1, cells := 0, slots := 0, locals := 22 }) s m args below meth c H locs 0 0 Q (F0 m 57 ls []))
    (kx_71 : (∀ c, c % 10 < w → c / 10 < h → ¬ f5 c = 0 → True → c % 10 < i + fn → i < c % 10 + fn → c / 10 < j + fn → j < c / 10 + fn → False) → ∀ (H : Heap) (locs : List Loc), va_P D vwCl [(h0, Sum.inr (5, [Value.int (nI w), Value.int (nI h), Value.ref q1, Value.ref q2, Value.ref q3, Value.ref q4, Value.ref q5, Value.ref q6])), (q5, Sum.inl (cy5, 100, Sum.inl f5))] H → va_D A [(h0, Sum.inr (5, [Value.int (nI w), Value.int (nI h), Value.ref q1, Value.ref q2, Value.ref q3, Value.ref q4, Value.ref q5, Value.ref q6])), (q5, Sum.inl (cy5, 100, Sum.inl f5))] → va_S A s.heap H locs → ∀ ls : Array Slot, lv_has ls 6 [] → W p l e ({ frames := 1, cells := 0, slots := 0, locals := 22 }) s m args below meth c H locs 0 0 Q (F0 m 71 ls [])) :
    ∀ n : Nat, ∀ (dy : Int32), (w ≤ 10) → (h ≤ 10) → (i < w) → (j < h) → (fn ≤ 9) → (1 - (fn : Int) ≤ dy.toInt ∧ dy.toInt ≤ 10) → (∀ c, c % 10 < w → c / 10 < h → ¬ f5 c = 0 → ((c / 10 : Nat) : Int) < j + dy.toInt → c % 10 < i + fn → i < c % 10 + fn → c / 10 < j + fn → j < c / 10 + fn → False) → ((20 - dy.toInt).toNat) < n → ∀ (H : Heap) (locs : List Loc), va_P D vwCl [(h0, Sum.inr (5, [Value.int (nI w), Value.int (nI h), Value.ref q1, Value.ref q2, Value.ref q3, Value.ref q4, Value.ref q5, Value.ref q6])), (q5, Sum.inl (cy5, 100, Sum.inl f5))] H → va_D A [(h0, Sum.inr (5, [Value.int (nI w), Value.int (nI h), Value.ref q1, Value.ref q2, Value.ref q3, Value.ref q4, Value.ref q5, Value.ref q6])), (q5, Sum.inl (cy5, 100, Sum.inl f5))] → va_S A s.heap H locs → ∀ ls : Array Slot, lv_has ls 6 [(0, Value.ref h0), (1, Value.int (nI fn)), (2, Value.int (nI i)), (3, Value.int (nI j)), (4, Value.int dy)] → W p l e ({ frames := 1, cells := 0, slots := 0, locals := 22 }) s m args below meth c H locs 0 0 Q (F0 m 5 ls []) := by
  intro n
  induction n with
  | zero => intro dy h3 h4 hi hj hfn hdy1 hn1 hn; exact absurd hn (Nat.not_lt_zero _)
  | succ n ih =>
    intro dy h3 h4 hi hj hfn hdy1 hn1 hn H locs hP hD hS ls hl
    obtain ⟨hx, hb, hml, hown, hts⟩ := id F
    refine lv_iload hx hb dX6_hasCrackNearerThan_5 (lv_at hl 4 rfl) ?_
    refine lv_iload_n hx hb dX6_hasCrackNearerThan_7 rfl (lv_at hl 1 rfl) ?_
    refine lv_icmp_ge (tgt := 71) hx hb dX6_hasCrackNearerThan_8 (by decide) (fun c_1 => ?_) (fun c_1 => ?_)
    · skip
      have c_1 := Int32.not_lt.mpr c_1
      have c_1z : ((fn : Nat) : Int) ≤ dy.toInt := z_nlt rfl (nI_toInt (by omega)) c_1
      exact kx_71  (fun c q1 q2 q3 q4 q6 q7 q8 q9 => hn1 c q1 q2 q3 (by omega) q6 q7 q8 q9) H locs (hP.sub [0, 1] rfl) (hD.sub [0, 1] (by decide) rfl) hS ls (lv_sub hl [] rfl)
    · skip
      have c_1 := Int32.not_le.mp c_1
      have c_1z : dy.toInt < ((fn : Nat) : Int) := z_lt rfl (nI_toInt (by omega)) c_1
      refine lv_iconst (v := 1) hx hb dX6_hasCrackNearerThan_11 (by decide) ?_
      refine lv_iload_n hx hb dX6_hasCrackNearerThan_12 rfl (lv_at hl 1 rfl) ?_
      refine lv_isub hx hb dX6_hasCrackNearerThan_13 ?_
      refine lv_topi (fun z_2 ez_2 => ?_)
      have hZz_2 : z_2.toInt = (1 : Int) - ((fn : Nat) : Int) := by rw [ez_2]; exact z_sub (by decide) (nI_toInt (by omega)) (by omega) (by omega)
      refine lv_istore (lv' := [(5, Value.int z_2), (0, Value.ref h0), (1, Value.int (nI fn)), (2, Value.int (nI i)), (3, Value.int (nI j)), (4, Value.int dy)]) hx hb dX6_hasCrackNearerThan_14 hl (by decide) rfl (fun ls hl => ?_)
      refine lp_s_crk_in F hA h0 w h q1 q2 q3 q4 q5 q6 cy5 f5 fn i j dy (hK.sub [0] rfl) (fun  h_3 H locs hP hD hS ls hl => ?_) (fun  h_4 H locs hP hD hS ls hl => ?_) _ z_2 (by omega) (by omega) (by omega) (by omega) (by omega) hdy1 (by omega) (by omega) hn1 (fun c q1 q2 q3 q4 q5 q6 q7 q8 q9 => by omega) (Nat.lt_succ_self _) _ _ (hP.sub [0, 1] rfl) (hD.sub [0, 1] (by decide) rfl) hS ls (lv_sub hl [1, 2, 3, 4, 5, 0] rfl)
      · skip
        have h_3 : (∃ c, c % 10 < w ∧ c / 10 < h ∧ ¬ f5 c = 0 ∧ c % 10 < i + fn ∧ i < c % 10 + fn ∧ c / 10 < j + fn ∧ j < c / 10 + fn) := h_3
        exact kx_57  h_3 H locs (hP.sub [0, 1] rfl) (hD.sub [0, 1] (by decide) rfl) hS ls (lv_sub hl [] rfl)
      · skip
        have h_4 : ∀ c, c % 10 < w → c / 10 < h → ¬ f5 c = 0 → ((c / 10 : Nat) : Int) < j + dy.toInt + 1 → c % 10 < i + fn → i < c % 10 + fn → c / 10 < j + fn → j < c / 10 + fn → False := h_4
        obtain ⟨z_5, ez_5⟩ : ∃ y : Int32, y = dy + 1 := ⟨_, rfl⟩
        have hZz_5 : z_5.toInt = dy.toInt + (1 : Int) := by rw [ez_5]; exact z_add rfl (by decide) (by omega) (by omega)
        refine lv_iinc (v := z_5) (lv' := [(4, Value.int z_5), (0, Value.ref h0), (1, Value.int (nI fn)), (2, Value.int (nI i)), (3, Value.int (nI j))]) hx hb dX6_hasCrackNearerThan_65 hl (k := 4) rfl (by rw [ez_5]; rfl) (by decide) rfl (fun ls hl => ?_)
        refine lv_goto (tgt := 5) hx hb dX6_hasCrackNearerThan_68 (by decide) ?_
        exact ih z_5 (by omega) (by omega) (by omega) (by omega) (by omega) (by omega) (fun c q1 q2 q3 q4 => h_4 c q1 q2 q3 (by omega)) (by omega) H locs (hP.sub [0, 1] rfl) (hD.sub [0, 1] (by decide) rfl) hS ls (lv_sub hl [1, 2, 3, 4, 0] rfl)
set_option maxHeartbeats 4000000 in
set_option maxRecDepth 100000 in
theorem s_hasCrack (l : Launch) (D : va_G) (h0 : Nat) (w : Nat) (h : Nat) (q1 : Nat) (q2 : Nat) (q3 : Nat) (q4 : Nat) (q5 : Nat) (q6 : Nat) (cy5 : ClassId) (f5 : Nat → Int32) (fn : Nat) (i : Nat) (j : Nat) (h3 : w ≤ 10) (h4 : h ≤ 10) (hi : i < w) (hj : j < h) (hfn : fn ≤ 9) : cI l yX6_hasCrackNearerThan (.code yX6_hasCrackNearerThan cX6_hasCrackNearerThan 6 (some .boolean)) ({ frames := 1, cells := 0, slots := 0, locals := 22 }) D [(cy5, .boolean)] [(h0, Sum.inr (5, [Value.int (nI w), Value.int (nI h), Value.ref q1, Value.ref q2, Value.ref q3, Value.ref q4, Value.ref q5, Value.ref q6])), (q5, Sum.inl (cy5, 100, Sum.inl f5))] xT [Value.ref h0, Value.int (nI fn), Value.int (nI i), Value.int (nI j)] (S := Unit) (fun r _ => (r = 1 ∧ crkP w h f5 fn (j * 10 + i)) ∨ (r = 0 ∧ ¬ crkP w h f5 fn (j * 10 + i))) (fun _ => []) (fun _ => [(h0, Sum.inr (5, [Value.int (nI w), Value.int (nI h), Value.ref q1, Value.ref q2, Value.ref q3, Value.ref q4, Value.ref q5, Value.ref q6])), (q5, Sum.inl (cy5, 100, Sum.inl f5))]) := by
  intro sz
  refine Met.ofW (cc := cX6_hasCrackNearerThan) (maxL := 6) (ret := (some .boolean)) (by decide) rfl ?_
  intro p e s m args below meth c s₁ B hml hv
  obtain ⟨rfl, hsz, hP, hK, hD0, hX⟩ := hv
  have hx := B.exec
  have hb := B.bytes
  have hr := B.returns
  have hts0 := atoms_spec (ws := .code yX6_hasCrackNearerThan cX6_hasCrackNearerThan 6 (some .boolean) :: gw) B.pre
  have hts := fun (w : Cond) (h : w ∈ gw) => hts0 w (List.mem_cons_of_mem _ h)
  have hown : s.vm.findClass RX6 = some m.cls := findClass_of_methodNamed B.named
  have hlocks := B.notSynchronized
  have F : mFix p s m _ c cX6_hasCrackNearerThan 6 RX6 := ⟨hx, hb, hml, hown, hts⟩
  subst hsz
  have hD := hD0.self (sz := s.heap.size)
  generalize hAe : va_A [(h0, Sum.inr (5, [Value.int (nI w), Value.int (nI h), Value.ref q1, Value.ref q2, Value.ref q3, Value.ref q4, Value.ref q5, Value.ref q6])), (q5, Sum.inl (cy5, 100, Sum.inl f5))] s.heap.size = A at hD hX ⊢
  have hA : ∀ q : Nat, s.heap.size ≤ q → A q := fun q h => by rw [← hAe]; exact Or.inr h
  have hS : va_S A s.heap s.heap [] := va_S.rf
  have hl := lv_entry ([Value.ref h0, Value.int (nI fn), Value.int (nI i), Value.int (nI j)]) (n := 6) (Nat.le_of_ble_eq_true rfl)
  rw [lg_entry_eq]
  generalize (lg_sl ([Value.ref h0, Value.int (nI fn), Value.int (nI i), Value.int (nI j)]) ++ List.replicate (6 - (lg_sl ([Value.ref h0, Value.int (nI fn), Value.int (nI i), Value.int (nI j)])).length) Slot.unset).toArray = ls at hl ⊢
  have hl : lv_has ls 6 [(0, Value.ref h0), (1, Value.int (nI fn)), (2, Value.int (nI i)), (3, Value.int (nI j))] := hl
  have hP : va_P D vwCl [(h0, Sum.inr (5, [Value.int (nI w), Value.int (nI h), Value.ref q1, Value.ref q2, Value.ref q3, Value.ref q4, Value.ref q5, Value.ref q6])), (q5, Sum.inl (cy5, 100, Sum.inl f5))] s.heap := hP
  refine lv_iconst (v := 1) hx hb dX6_hasCrackNearerThan_0 (by decide) ?_
  refine lv_iload_n hx hb dX6_hasCrackNearerThan_1 rfl (lv_at hl 1 rfl) ?_
  refine lv_isub hx hb dX6_hasCrackNearerThan_2 ?_
  refine lv_topi (fun z_1 ez_1 => ?_)
  have hZz_1 : z_1.toInt = (1 : Int) - ((fn : Nat) : Int) := by rw [ez_1]; exact z_sub (by decide) (nI_toInt (by omega)) (by omega) (by omega)
  refine lv_istore (lv' := [(4, Value.int z_1), (0, Value.ref h0), (1, Value.int (nI fn)), (2, Value.int (nI i)), (3, Value.int (nI j))]) hx hb dX6_hasCrackNearerThan_3 hl (by decide) rfl (fun ls hl => ?_)
  refine lp_s_crk_out F hA h0 w h q1 q2 q3 q4 q5 q6 cy5 f5 fn i j (hK.sub [0] rfl) (fun  h_2 H locs hP hD hS ls hl => ?_) (fun  h_3 H locs hP hD hS ls hl => ?_) _ z_1 (by omega) (by omega) (by omega) (by omega) (by omega) (by omega) (fun c q1 q2 q3 q4 q6 q7 q8 q9 => by omega) (Nat.lt_succ_self _) _ _ (hP.sub [0, 1] rfl) (hD.sub [0, 1] (by decide) rfl) hS ls (lv_sub hl [1, 2, 3, 4, 0] rfl)
  · skip
    have h_2 : (∃ c, c % 10 < w ∧ c / 10 < h ∧ ¬ f5 c = 0 ∧ c % 10 < i + fn ∧ i < c % 10 + fn ∧ c / 10 < j + fn ∧ j < c / 10 + fn) := h_2
    refine lv_iconst (v := 1) hx hb dX6_hasCrackNearerThan_57 (by decide) ?_
    have hP9 := hP.sub (ws' := [(h0, Sum.inr (5, [Value.int (nI w), Value.int (nI h), Value.ref q1, Value.ref q2, Value.ref q3, Value.ref q4, Value.ref q5, Value.ref q6])), (q5, Sum.inl (cy5, 100, Sum.inl f5))]) [0, 1] rfl
    have hD9 := hD.sub (ws' := [(h0, Sum.inr (5, [Value.int (nI w), Value.int (nI h), Value.ref q1, Value.ref q2, Value.ref q3, Value.ref q4, Value.ref q5, Value.ref q6])), (q5, Sum.inl (cy5, 100, Sum.inl f5))]) [0, 1] (by decide) rfl
    have hK9 := hK.sub (tys' := []) [] rfl
    refine W.widen (k := 0) (n := 0) (by decide) (by decide) ?_
    exact W.zret (v := 1) hx hb hr rfl (fun t ht hW => ⟨⟨1, (), rfl, Or.inl ⟨rfl, (crk_iff (by omega)).mp h_2⟩, by rw [ht]; exact hP9, va_K.moved hW.alike hK9, hD9⟩, hS.F ht⟩) hS.2.2 dX6_hasCrackNearerThan_58
  · skip
    have h_3 : ∀ c, c % 10 < w → c / 10 < h → ¬ f5 c = 0 → True → c % 10 < i + fn → i < c % 10 + fn → c / 10 < j + fn → j < c / 10 + fn → False := h_3
    refine lv_iconst (v := 0) hx hb dX6_hasCrackNearerThan_71 (by decide) ?_
    have hP9 := hP.sub (ws' := [(h0, Sum.inr (5, [Value.int (nI w), Value.int (nI h), Value.ref q1, Value.ref q2, Value.ref q3, Value.ref q4, Value.ref q5, Value.ref q6])), (q5, Sum.inl (cy5, 100, Sum.inl f5))]) [0, 1] rfl
    have hD9 := hD.sub (ws' := [(h0, Sum.inr (5, [Value.int (nI w), Value.int (nI h), Value.ref q1, Value.ref q2, Value.ref q3, Value.ref q4, Value.ref q5, Value.ref q6])), (q5, Sum.inl (cy5, 100, Sum.inl f5))]) [0, 1] (by decide) rfl
    have hK9 := hK.sub (tys' := []) [] rfl
    refine W.widen (k := 0) (n := 0) (by decide) (by decide) ?_
    exact W.zret (v := 0) hx hb hr rfl (fun t ht hW => ⟨⟨0, (), rfl, Or.inr ⟨rfl, fun q => by obtain ⟨c9, q1, q2, q3, q6, q7, q8, q9⟩ := (crk_iff (by omega)).mpr q; exact h_3 c9 q1 q2 q3 trivial q6 q7 q8 q9⟩, by rw [ht]; exact hP9, va_K.moved hW.alike hK9, hD9⟩, hS.F ht⟩) hS.2.2 dX6_hasCrackNearerThan_72
set_option maxHeartbeats 4000000 in
set_option maxRecDepth 100000 in
theorem lp_s_heal {p : Program} {l : Launch} {e : Env} {s : State} {m : MethodId} {args : Array Value} {below : List Frame} {meth : Method} {c : Code} {Q : State → Prop} {A : Nat → Prop} {D : va_G} (F : mFix p s m args c cX6_healFrom 3 RX6) (hA : ∀ q, s.heap.size ≤ q → A q) (h0 : Nat) (w : Nat) (h : Nat) (q1 : Nat) (q2 : Nat) (q3 : Nat) (q4 : Nat) (q5 : Nat) (q6 : Nat) (cy1 : ClassId) (f1 : Nat → Int32) (cy5 : ClassId) (t1 : Int32) (f5 : Nat → Int32) (hK : va_K D vwCl [(cy1, .int), (cy5, .boolean)] s)
    (kx_31 : ∀ (g5 : Nat → Int32), (∀ c, g5 c = if c < 100 ∧ t1 ≤ f1 c then 0 else f5 c) → ∀ (H : Heap) (locs : List Loc), va_P D vwCl [(h0, Sum.inr (5, [Value.int (nI w), Value.int (nI h), Value.ref q1, Value.ref q2, Value.ref q3, Value.ref q4, Value.ref q5, Value.ref q6])), (q1, Sum.inl (cy1, 100, Sum.inl f1)), (q5, Sum.inl (cy5, 100, Sum.inl g5))] H → va_D A [(h0, Sum.inr (5, [Value.int (nI w), Value.int (nI h), Value.ref q1, Value.ref q2, Value.ref q3, Value.ref q4, Value.ref q5, Value.ref q6])), (q1, Sum.inl (cy1, 100, Sum.inl f1)), (q5, Sum.inl (cy5, 100, Sum.inl g5))] → va_S A s.heap H locs → ∀ ls : Array Slot, lv_has ls 3 [] → W p l e ({ frames := 0, cells := 0, slots := 0, locals := 0 }) s m args below meth c H locs 0 0 Q (F0 m 31 ls [])) :
    ∀ n : Nat, ∀ (g5 : Nat → Int32) (i : Nat), (i ≤ 100) → (∀ c, g5 c = if c < i ∧ t1 ≤ f1 c then 0 else f5 c) → (100 - i) < n → ∀ (H : Heap) (locs : List Loc), va_P D vwCl [(h0, Sum.inr (5, [Value.int (nI w), Value.int (nI h), Value.ref q1, Value.ref q2, Value.ref q3, Value.ref q4, Value.ref q5, Value.ref q6])), (q1, Sum.inl (cy1, 100, Sum.inl f1)), (q5, Sum.inl (cy5, 100, Sum.inl g5))] H → va_D A [(h0, Sum.inr (5, [Value.int (nI w), Value.int (nI h), Value.ref q1, Value.ref q2, Value.ref q3, Value.ref q4, Value.ref q5, Value.ref q6])), (q1, Sum.inl (cy1, 100, Sum.inl f1)), (q5, Sum.inl (cy5, 100, Sum.inl g5))] → va_S A s.heap H locs → ∀ ls : Array Slot, lv_has ls 3 [(0, Value.ref h0), (1, Value.int t1), (2, Value.int (nI i))] → W p l e ({ frames := 0, cells := 0, slots := 0, locals := 0 }) s m args below meth c H locs 0 0 Q (F0 m 2 ls []) := by
  intro n
  induction n with
  | zero => intro g5 i hi hhe hn; exact absurd hn (Nat.not_lt_zero _)
  | succ n ih =>
    intro g5 i hi hhe hn H locs hP hD hS ls hl
    obtain ⟨hx, hb, hml, hown, hts⟩ := id F
    refine lv_iload_n hx hb dX6_healFrom_2 rfl (lv_at hl 2 rfl) ?_
    refine lv_bipush (v := 100) hx hb dX6_healFrom_3 (by decide) ?_
    refine lv_icmp_ge (tgt := 31) hx hb dX6_healFrom_5 (by decide) (fun c_1 => ?_) (fun c_1 => ?_)
    · skip
      have c_1n : 100 ≤ i := (nI_leI (by omega) (by omega)).mp c_1
      have c_1 := Int32.not_lt.mpr c_1
      exact kx_31 g5 ((show i = 100 by omega) ▸ hhe) H locs (hP.sub [0, 1, 2] rfl) (hD.sub [0, 1, 2] (by decide) rfl) hS ls (lv_sub hl [] rfl)
    · skip
      have c_1n : i < 100 := nb_le (by omega) (by omega) c_1
      have c_1 := Int32.not_le.mp c_1
      refine lv_aload_n hx hb dX6_healFrom_8 rfl (lv_at hl 0 rfl) ?_
      refine va_get (D := D) (ci := 5) (v := Value.ref q1) (C := RX6) (T := TX6) (N := 8) hx hb hts inG_X6 hown hK hP 0 rfl rfl 2 (by decide) (hts _ kw_1_148) (fun _ h9 => h9) rfl dX6_healFrom_9 ?_
      refine lv_iload_n hx hb dX6_healFrom_12 rfl (lv_at hl 2 rfl) ?_
      refine m_iald hx hb hK hP 1 0 rfl rfl i rfl (by omega) (by decide) dX6_healFrom_13 ?_
      refine lv_topi (fun v_2 ev_2 => ?_)
      refine lv_iload_n hx hb dX6_healFrom_14 rfl (lv_at hl 1 rfl) ?_
      refine lv_icmp_lt (tgt := 25) hx hb dX6_healFrom_15 (by decide) (fun c_3 => ?_) (fun c_3 => ?_)
      · skip
        refine lv_iinc (v := nI (i + 1)) (lv' := [(2, Value.int (nI (i + 1))), (0, Value.ref h0), (1, Value.int t1)]) hx hb dX6_healFrom_25 hl (k := 2) rfl (nI_add i 1) (by decide) rfl (fun ls hl => ?_)
        refine lv_goto (tgt := 2) hx hb dX6_healFrom_28 (by decide) ?_
        exact ih g5 (i + 1) (by omega) (he_0 hhe (by rw [← ev_2]; exact Int32.not_le.mpr c_3)) (by omega) H locs (hP.sub [0, 1, 2] rfl) (hD.sub [0, 1, 2] (by decide) rfl) hS ls (lv_sub hl [1, 2, 0] rfl)
      · skip
        refine lv_aload_n hx hb dX6_healFrom_18 rfl (lv_at hl 0 rfl) ?_
        refine va_get (D := D) (ci := 5) (v := Value.ref q5) (C := RX6) (T := TX6) (N := 8) hx hb hts inG_X6 hown hK hP 0 rfl rfl 6 (by decide) (hts _ kw_1_157) (fun _ h9 => h9) rfl dX6_healFrom_19 ?_
        refine lv_iload_n hx hb dX6_healFrom_22 rfl (lv_at hl 2 rfl) ?_
        refine lv_iconst (v := 0) hx hb dX6_healFrom_23 (by decide) ?_
        refine m_zast hx hb hK hP hD hS 2 1 rfl rfl i rfl (by omega) (by decide) dX6_healFrom_24 (fun g_4 H locs eg_4 hP hD hS => ?_)
        have hP : va_P D vwCl [(h0, Sum.inr (5, [Value.int (nI w), Value.int (nI h), Value.ref q1, Value.ref q2, Value.ref q3, Value.ref q4, Value.ref q5, Value.ref q6])), (q1, Sum.inl (cy1, 100, Sum.inl f1)), (q5, Sum.inl (cy5, 100, Sum.inl g_4))] H := hP
        have hD : va_D A [(h0, Sum.inr (5, [Value.int (nI w), Value.int (nI h), Value.ref q1, Value.ref q2, Value.ref q3, Value.ref q4, Value.ref q5, Value.ref q6])), (q1, Sum.inl (cy1, 100, Sum.inl f1)), (q5, Sum.inl (cy5, 100, Sum.inl g_4))] := hD
        refine lv_iinc (v := nI (i + 1)) (lv' := [(2, Value.int (nI (i + 1))), (0, Value.ref h0), (1, Value.int t1)]) hx hb dX6_healFrom_25 hl (k := 2) rfl (nI_add i 1) (by decide) rfl (fun ls hl => ?_)
        refine lv_goto (tgt := 2) hx hb dX6_healFrom_28 (by decide) ?_
        exact ih g_4 (i + 1) (by omega) (he_1 hhe (by rw [← ev_2]; exact Int32.not_lt.mp c_3) eg_4) (by omega) H locs (hP.sub [0, 1, 2] rfl) (hD.sub [0, 1, 2] (by decide) rfl) hS ls (lv_sub hl [1, 2, 0] rfl)
set_option maxHeartbeats 4000000 in
set_option maxRecDepth 100000 in
theorem s_healFrom (l : Launch) (D : va_G) (h0 : Nat) (w : Nat) (h : Nat) (q1 : Nat) (q2 : Nat) (q3 : Nat) (q4 : Nat) (q5 : Nat) (q6 : Nat) (cy1 : ClassId) (f1 : Nat → Int32) (cy5 : ClassId) (f5 : Nat → Int32) (t1 : Int32) : cV l yX6_healFrom (.code yX6_healFrom cX6_healFrom 3 none) ({ frames := 0, cells := 0, slots := 0, locals := 0 }) D [(cy1, .int), (cy5, .boolean)] [(h0, Sum.inr (5, [Value.int (nI w), Value.int (nI h), Value.ref q1, Value.ref q2, Value.ref q3, Value.ref q4, Value.ref q5, Value.ref q6])), (q1, Sum.inl (cy1, 100, Sum.inl f1)), (q5, Sum.inl (cy5, 100, Sum.inl f5))] xT [Value.ref h0, Value.int t1] (S := (Nat → Int32)) (fun u => match u with | g5 => ∀ c, g5 c = if c < 100 ∧ t1 ≤ f1 c then 0 else f5 c) (fun u => match u with | g5 => []) (fun u => match u with | g5 => [(h0, Sum.inr (5, [Value.int (nI w), Value.int (nI h), Value.ref q1, Value.ref q2, Value.ref q3, Value.ref q4, Value.ref q5, Value.ref q6])), (q1, Sum.inl (cy1, 100, Sum.inl f1)), (q5, Sum.inl (cy5, 100, Sum.inl g5))]) := by
  intro sz
  refine Met.ofW (cc := cX6_healFrom) (maxL := 3) (ret := none) (by decide) rfl ?_
  intro p e s m args below meth c s₁ B hml hv
  obtain ⟨rfl, hsz, hP, hK, hD0, hX⟩ := hv
  have hx := B.exec
  have hb := B.bytes
  have hr := B.returns
  have hts0 := atoms_spec (ws := .code yX6_healFrom cX6_healFrom 3 none :: gw) B.pre
  have hts := fun (w : Cond) (h : w ∈ gw) => hts0 w (List.mem_cons_of_mem _ h)
  have hown : s.vm.findClass RX6 = some m.cls := findClass_of_methodNamed B.named
  have hlocks := B.notSynchronized
  have F : mFix p s m _ c cX6_healFrom 3 RX6 := ⟨hx, hb, hml, hown, hts⟩
  subst hsz
  have hD := hD0.self (sz := s.heap.size)
  generalize hAe : va_A [(h0, Sum.inr (5, [Value.int (nI w), Value.int (nI h), Value.ref q1, Value.ref q2, Value.ref q3, Value.ref q4, Value.ref q5, Value.ref q6])), (q1, Sum.inl (cy1, 100, Sum.inl f1)), (q5, Sum.inl (cy5, 100, Sum.inl f5))] s.heap.size = A at hD hX ⊢
  have hA : ∀ q : Nat, s.heap.size ≤ q → A q := fun q h => by rw [← hAe]; exact Or.inr h
  have hS : va_S A s.heap s.heap [] := va_S.rf
  have hl := lv_entry ([Value.ref h0, Value.int t1]) (n := 3) (Nat.le_of_ble_eq_true rfl)
  rw [lg_entry_eq]
  generalize (lg_sl ([Value.ref h0, Value.int t1]) ++ List.replicate (3 - (lg_sl ([Value.ref h0, Value.int t1])).length) Slot.unset).toArray = ls at hl ⊢
  have hl : lv_has ls 3 [(0, Value.ref h0), (1, Value.int t1)] := hl
  have hP : va_P D vwCl [(h0, Sum.inr (5, [Value.int (nI w), Value.int (nI h), Value.ref q1, Value.ref q2, Value.ref q3, Value.ref q4, Value.ref q5, Value.ref q6])), (q1, Sum.inl (cy1, 100, Sum.inl f1)), (q5, Sum.inl (cy5, 100, Sum.inl f5))] s.heap := hP
  refine lv_iconst (v := 0) hx hb dX6_healFrom_0 (by decide) ?_
  refine lv_istore_n (lv' := [(2, Value.int 0), (0, Value.ref h0), (1, Value.int t1)]) hx hb dX6_healFrom_1 rfl hl (by decide) rfl (fun ls hl => ?_)
  refine lp_s_heal F hA h0 w h q1 q2 q3 q4 q5 q6 cy1 f1 cy5 t1 f5 (hK.sub [0, 1] rfl) (fun g5_1 h_2 H locs hP hD hS ls hl => ?_) _ f5 0 (by omega) (fun c => by rw [if_neg (fun q => Nat.not_lt_zero _ q.1)]) (Nat.lt_succ_self _) _ _ (hP.sub [0, 1, 2] rfl) (hD.sub [0, 1, 2] (by decide) rfl) hS ls (lv_sub hl [1, 2, 0] rfl)
  have h_2 : ∀ c, g5_1 c = if c < 100 ∧ t1 ≤ f1 c then 0 else f5 c := h_2
  have hP9 := hP.sub (ws' := [(h0, Sum.inr (5, [Value.int (nI w), Value.int (nI h), Value.ref q1, Value.ref q2, Value.ref q3, Value.ref q4, Value.ref q5, Value.ref q6])), (q1, Sum.inl (cy1, 100, Sum.inl f1)), (q5, Sum.inl (cy5, 100, Sum.inl g5_1))]) [0, 1, 2] rfl
  have hD9 := hD.sub (ws' := [(h0, Sum.inr (5, [Value.int (nI w), Value.int (nI h), Value.ref q1, Value.ref q2, Value.ref q3, Value.ref q4, Value.ref q5, Value.ref q6])), (q1, Sum.inl (cy1, 100, Sum.inl f1)), (q5, Sum.inl (cy5, 100, Sum.inl g5_1))]) [0, 1, 2] (by decide) rfl
  have hK9 := hK.sub (tys' := []) [] rfl
  refine W.widen (k := 0) (n := 0) (by decide) (by decide) ?_
  exact W.vret hx hb hr (fun t ht hW => ⟨⟨g5_1, rfl, h_2, by rw [ht]; exact hP9, va_K.moved hW.alike hK9, hD9⟩, hS.F ht⟩) hS.2.2 dX6_healFrom_31
set_option maxHeartbeats 4000000 in
set_option maxRecDepth 100000 in
theorem lp_s_mark_in {p : Program} {l : Launch} {e : Env} {s : State} {m : MethodId} {args : Array Value} {below : List Frame} {meth : Method} {c : Code} {Q : State → Prop} {A : Nat → Prop} {D : va_G} (F : mFix p s m args c cX6_markBreaking 7 RX6) (hA : ∀ q, s.heap.size ≤ q → A q) (h0 : Nat) (w : Nat) (h : Nat) (q1 : Nat) (q2 : Nat) (q3 : Nat) (q4 : Nat) (q5 : Nat) (q6 : Nat) (cy1 : ClassId) (f1 : Nat → Int32) (cy2 : ClassId) (f2 : Nat → Int32) (cy3 : ClassId) (f3 : Nat → Int32) (cy5 : ClassId) (f5 : Nat → Int32) (cy6 : ClassId) (b : Int32) (j : Nat) (hK : va_K D vwCl [(cy1, .int), (cy2, .int), (cy3, .int), (cy5, .boolean), (cy6, .boolean)] s)
    (kx_120 : ∀ (g6 : Nat → Int32) (an : Int32), (∀ c, c % 10 < w → c / 10 < h → c / 10 < j + 1 → g6 c = mkI f1 f2 f3 f5 b c) → ((an = 1 ∧ ∃ c, c % 10 < w ∧ c / 10 < h ∧ c / 10 < j + 1 ∧ ¬ g6 c = 0) ∨ (an = 0 ∧ ∀ c, c % 10 < w → c / 10 < h → c / 10 < j + 1 → g6 c = 0)) → ∀ (H : Heap) (locs : List Loc), va_P D vwCl [(h0, Sum.inr (5, [Value.int (nI w), Value.int (nI h), Value.ref q1, Value.ref q2, Value.ref q3, Value.ref q4, Value.ref q5, Value.ref q6])), (q1, Sum.inl (cy1, 100, Sum.inl f1)), (q2, Sum.inl (cy2, 100, Sum.inl f2)), (q3, Sum.inl (cy3, 100, Sum.inl f3)), (q5, Sum.inl (cy5, 100, Sum.inl f5)), (q6, Sum.inl (cy6, 100, Sum.inl g6))] H → va_D A [(h0, Sum.inr (5, [Value.int (nI w), Value.int (nI h), Value.ref q1, Value.ref q2, Value.ref q3, Value.ref q4, Value.ref q5, Value.ref q6])), (q1, Sum.inl (cy1, 100, Sum.inl f1)), (q2, Sum.inl (cy2, 100, Sum.inl f2)), (q3, Sum.inl (cy3, 100, Sum.inl f3)), (q5, Sum.inl (cy5, 100, Sum.inl f5)), (q6, Sum.inl (cy6, 100, Sum.inl g6))] → va_S A s.heap H locs → ∀ ls : Array Slot, lv_has ls 7 [(0, Value.ref h0), (1, Value.int b), (2, Value.int an), (3, Value.int (nI j))] → W p l e ({ frames := 1, cells := 0, slots := 0, locals := 22 }) s m args below meth c H locs 0 0 Q (F0 m 120 ls [])) :
    ∀ n : Nat, ∀ (g6 : Nat → Int32) (an : Int32) (i : Nat), (i ≤ w) → (j < h) → (w ≤ 10) → (h ≤ 10) → (∀ c, c % 10 < w → c / 10 < h → (c / 10 < j ∨ (c / 10 = j ∧ c % 10 < i)) → g6 c = mkI f1 f2 f3 f5 b c) → ((an = 1 ∧ ∃ c, c % 10 < w ∧ c / 10 < h ∧ (c / 10 < j ∨ (c / 10 = j ∧ c % 10 < i)) ∧ ¬ g6 c = 0) ∨ (an = 0 ∧ ∀ c, c % 10 < w → c / 10 < h → (c / 10 < j ∨ (c / 10 = j ∧ c % 10 < i)) → g6 c = 0)) → (w - i) < n → ∀ (H : Heap) (locs : List Loc), va_P D vwCl [(h0, Sum.inr (5, [Value.int (nI w), Value.int (nI h), Value.ref q1, Value.ref q2, Value.ref q3, Value.ref q4, Value.ref q5, Value.ref q6])), (q1, Sum.inl (cy1, 100, Sum.inl f1)), (q2, Sum.inl (cy2, 100, Sum.inl f2)), (q3, Sum.inl (cy3, 100, Sum.inl f3)), (q5, Sum.inl (cy5, 100, Sum.inl f5)), (q6, Sum.inl (cy6, 100, Sum.inl g6))] H → va_D A [(h0, Sum.inr (5, [Value.int (nI w), Value.int (nI h), Value.ref q1, Value.ref q2, Value.ref q3, Value.ref q4, Value.ref q5, Value.ref q6])), (q1, Sum.inl (cy1, 100, Sum.inl f1)), (q2, Sum.inl (cy2, 100, Sum.inl f2)), (q3, Sum.inl (cy3, 100, Sum.inl f3)), (q5, Sum.inl (cy5, 100, Sum.inl f5)), (q6, Sum.inl (cy6, 100, Sum.inl g6))] → va_S A s.heap H locs → ∀ ls : Array Slot, lv_has ls 7 [(0, Value.ref h0), (1, Value.int b), (2, Value.int an), (3, Value.int (nI j)), (4, Value.int (nI i))] → W p l e ({ frames := 1, cells := 0, slots := 0, locals := 22 }) s m args below meth c H locs 0 0 Q (F0 m 15 ls []) := by
  intro n
  induction n with
  | zero => intro g6 an i b1 b2 h3 h4 hmk han hn; exact absurd hn (Nat.not_lt_zero _)
  | succ n ih =>
    intro g6 an i b1 b2 h3 h4 hmk han hn H locs hP hD hS ls hl
    obtain ⟨hx, hb, hml, hown, hts⟩ := id F
    refine lv_iload hx hb dX6_markBreaking_15 (lv_at hl 4 rfl) ?_
    refine lv_aload_n hx hb dX6_markBreaking_17 rfl (lv_at hl 0 rfl) ?_
    refine va_get (D := D) (ci := 5) (v := Value.int (nI w)) (C := RX6) (T := TX6) (N := 8) hx hb hts inG_X6 hown hK hP 0 rfl rfl 0 (by decide) (hts _ kw_1_142) (fun _ h9 => h9) rfl dX6_markBreaking_18 ?_
    refine lv_icmp_ge (tgt := 120) hx hb dX6_markBreaking_21 (by decide) (fun c_1 => ?_) (fun c_1 => ?_)
    · skip
      have c_1n : w ≤ i := (nI_leI (by omega) (by omega)).mp c_1
      have c_1 := Int32.not_lt.mpr c_1
      exact kx_120 g6 an (fun c q1 q2 q3 => hmk c q1 q2 (by omega)) (han.imp (fun q => ⟨q.1, by obtain ⟨c9, q1, q2, q3, q4⟩ := q.2; exact ⟨c9, q1, q2, by omega, q4⟩⟩) (fun q => ⟨q.1, fun c q1 q2 q3 => q.2 c q1 q2 (by omega)⟩)) H locs (hP.sub [0, 1, 2, 3, 4, 5] rfl) (hD.sub [0, 1, 2, 3, 4, 5] (by decide) rfl) hS ls (lv_sub hl [0, 1, 2, 3] rfl)
    · skip
      have c_1n : i < w := nb_le (by omega) (by omega) c_1
      have c_1 := Int32.not_le.mp c_1
      refine lv_aload_n hx hb dX6_markBreaking_24 rfl (lv_at hl 0 rfl) ?_
      refine lv_iload hx hb dX6_markBreaking_25 (lv_at hl 4 rfl) ?_
      refine lv_iload_n hx hb dX6_markBreaking_27 rfl (lv_at hl 3 rfl) ?_
      refine mc_Vi (rest := []) (wr := [(q1, Sum.inl (cy1, 100, Sum.inl f1)), (q2, Sum.inl (cy2, 100, Sum.inl f2)), (q3, Sum.inl (cy3, 100, Sum.inl f3)), (q5, Sum.inl (cy5, 100, Sum.inl f5)), (q6, Sum.inl (cy6, 100, Sum.inl g6))]) F hK hP hD hS hA (c_spotOf l D h0 q1 q2 q3 q4 q5 q6 w h i j ) ⟨gk_X6_46.1, gk_X6_46.2, Nat.le_of_ble_eq_true rfl, Nat.le_of_ble_eq_true rfl⟩ [0] [1, 2, 3, 4, 5] [] ⟨rfl, rfl, rfl, rfl, by decide⟩ rfl xT_move (fun _ _ _ => trivial) 0 rfl rfl rfl hl.1 rfl (Nat.le_of_ble_eq_true rfl) dX6_markBreaking_28 ⟨Nat.le_of_ble_eq_true rfl, Nat.le_of_ble_eq_true rfl⟩ (fun r_2 _ H locs hw hK1 hP hD hS => ?_)
      have hP : va_P D vwCl [(q1, Sum.inl (cy1, 100, Sum.inl f1)), (q2, Sum.inl (cy2, 100, Sum.inl f2)), (q3, Sum.inl (cy3, 100, Sum.inl f3)), (q5, Sum.inl (cy5, 100, Sum.inl f5)), (q6, Sum.inl (cy6, 100, Sum.inl g6)), (h0, Sum.inr (5, [Value.int (nI w), Value.int (nI h), Value.ref q1, Value.ref q2, Value.ref q3, Value.ref q4, Value.ref q5, Value.ref q6]))] H := hP
      have hD : va_D A [(q1, Sum.inl (cy1, 100, Sum.inl f1)), (q2, Sum.inl (cy2, 100, Sum.inl f2)), (q3, Sum.inl (cy3, 100, Sum.inl f3)), (q5, Sum.inl (cy5, 100, Sum.inl f5)), (q6, Sum.inl (cy6, 100, Sum.inl g6)), (h0, Sum.inr (5, [Value.int (nI w), Value.int (nI h), Value.ref q1, Value.ref q2, Value.ref q3, Value.ref q4, Value.ref q5, Value.ref q6]))] := hD
      have hw_3 : r_2 = nI (j * 10 + i) := hw
      obtain rfl : r_2 = nI (j * 10 + i) := hw_3
      refine lv_istore (lv' := [(5, Value.int (nI (j * 10 + i))), (0, Value.ref h0), (1, Value.int b), (2, Value.int an), (3, Value.int (nI j)), (4, Value.int (nI i))]) hx hb dX6_markBreaking_31 hl (by decide) rfl (fun ls hl => ?_)
      refine lv_aload_n hx hb dX6_markBreaking_33 rfl (lv_at hl 1 rfl) ?_
      refine va_get (D := D) (ci := 5) (v := Value.ref q3) (C := RX6) (T := TX6) (N := 8) hx hb hts inG_X6 hown hK hP 5 rfl rfl 4 (by decide) (hts _ kw_1_152) (fun _ h9 => h9) rfl dX6_markBreaking_34 ?_
      refine lv_iload hx hb dX6_markBreaking_37 (lv_at hl 0 rfl) ?_
      refine m_iald hx hb hK hP 2 2 rfl rfl (j * 10 + i) rfl (by omega) (by decide) dX6_markBreaking_39 ?_
      refine lv_topi (fun v_4 ev_4 => ?_)
      refine lv_aload_n hx hb dX6_markBreaking_40 rfl (lv_at hl 1 rfl) ?_
      refine lv_iload hx hb dX6_markBreaking_41 (lv_at hl 0 rfl) ?_
      refine lv_iload_n hx hb dX6_markBreaking_43 rfl (lv_at hl 2 rfl) ?_
      refine mc_Vi (rest := [Value.int v_4]) (wr := [(q2, Sum.inl (cy2, 100, Sum.inl f2)), (q3, Sum.inl (cy3, 100, Sum.inl f3)), (q5, Sum.inl (cy5, 100, Sum.inl f5)), (q6, Sum.inl (cy6, 100, Sum.inl g6))]) F hK hP hD hS hA (c_bearing l D h0 q1 q2 q3 q4 q5 q6 cy1 f1 w h (j * 10 + i) b (by omega)) ⟨gk_X6_72.1, gk_X6_72.2, Nat.le_of_ble_eq_true rfl, Nat.le_of_ble_eq_true rfl⟩ [5, 0] [1, 2, 3, 4] [0] ⟨rfl, rfl, rfl, rfl, by decide⟩ rfl xT_move (fun _ _ _ => trivial) 5 rfl rfl rfl hl.1 rfl (Nat.le_of_ble_eq_true rfl) dX6_markBreaking_44 ⟨Nat.le_of_ble_eq_true rfl, Nat.le_of_ble_eq_true rfl⟩ (fun r_5 _ H locs hw hK1 hP hD hS => ?_)
      have hP : va_P D vwCl [(q2, Sum.inl (cy2, 100, Sum.inl f2)), (q3, Sum.inl (cy3, 100, Sum.inl f3)), (q5, Sum.inl (cy5, 100, Sum.inl f5)), (q6, Sum.inl (cy6, 100, Sum.inl g6)), (h0, Sum.inr (5, [Value.int (nI w), Value.int (nI h), Value.ref q1, Value.ref q2, Value.ref q3, Value.ref q4, Value.ref q5, Value.ref q6])), (q1, Sum.inl (cy1, 100, Sum.inl f1))] H := hP
      have hD : va_D A [(q2, Sum.inl (cy2, 100, Sum.inl f2)), (q3, Sum.inl (cy3, 100, Sum.inl f3)), (q5, Sum.inl (cy5, 100, Sum.inl f5)), (q6, Sum.inl (cy6, 100, Sum.inl g6)), (h0, Sum.inr (5, [Value.int (nI w), Value.int (nI h), Value.ref q1, Value.ref q2, Value.ref q3, Value.ref q4, Value.ref q5, Value.ref q6])), (q1, Sum.inl (cy1, 100, Sum.inl f1))] := hD
      have hw_6 : r_5 = f1 (j * 10 + i) * f1 (j * 10 + i) * b / 100 := hw
      refine lv_icmp_gt (tgt := 60) hx hb dX6_markBreaking_47 (by decide) (fun c_7 => ?_) (fun c_7 => ?_)
      · skip
        have hbr : brI f1 b (j * 10 + i) < f3 (j * 10 + i) := by rw [← ev_4]; show f1 _ * f1 _ * b / 100 < _; rw [← hw_6]; exact c_7
        refine lv_iconst (v := 1) hx hb dX6_markBreaking_60 (by decide) ?_
        refine lv_goto (tgt := 65) hx hb dX6_markBreaking_61 (by decide) ?_
        refine lv_istore (lv' := [(6, Value.int 1), (5, Value.int (nI (j * 10 + i))), (0, Value.ref h0), (1, Value.int b), (2, Value.int an), (3, Value.int (nI j)), (4, Value.int (nI i))]) hx hb dX6_markBreaking_65 hl (by decide) rfl (fun ls hl => ?_)
        refine lv_aload_n hx hb dX6_markBreaking_67 rfl (lv_at hl 2 rfl) ?_
        refine va_get (D := D) (ci := 5) (v := Value.ref q6) (C := RX6) (T := TX6) (N := 8) hx hb hts inG_X6 hown hK hP 4 rfl rfl 7 (by decide) (hts _ kw_1_159) (fun _ h9 => h9) rfl dX6_markBreaking_68 ?_
        refine lv_iload hx hb dX6_markBreaking_71 (lv_at hl 1 rfl) ?_
        refine lv_iload hx hb dX6_markBreaking_73 (lv_at hl 0 rfl) ?_
        refine lv_if_eq (tgt := 92) hx hb dX6_markBreaking_75 (by decide) (fun c_8 => absurd c_8 (by decide)) (fun c_8 => ?_)
        refine lv_aload_n hx hb dX6_markBreaking_78 rfl (lv_at hl 2 rfl) ?_
        refine va_get (D := D) (ci := 5) (v := Value.ref q5) (C := RX6) (T := TX6) (N := 8) hx hb hts inG_X6 hown hK hP 4 rfl rfl 6 (by decide) (hts _ kw_1_157) (fun _ h9 => h9) rfl dX6_markBreaking_79 ?_
        refine lv_iload hx hb dX6_markBreaking_82 (lv_at hl 1 rfl) ?_
        refine m_zald hx hb hK hP 2 3 rfl rfl (j * 10 + i) rfl (by omega) (by decide) dX6_markBreaking_84 ?_
        refine lv_topi (fun v_9 ev_9 => ?_)
        refine lv_if_ne (tgt := 92) hx hb dX6_markBreaking_85 (by decide) (fun c_10 => ?_) (fun c_10 => ?_)
        · skip
          have hcz : ¬ f5 (j * 10 + i) = 0 := by rw [← ev_9]; exact c_10
          refine lv_iconst (v := 0) hx hb dX6_markBreaking_92 (by decide) ?_
          refine m_zast hx hb hK hP hD hS 3 4 rfl rfl (j * 10 + i) rfl (by omega) (by decide) dX6_markBreaking_93 (fun g_11 H locs eg_11 hP hD hS => ?_)
          have hP : va_P D vwCl [(q2, Sum.inl (cy2, 100, Sum.inl f2)), (q3, Sum.inl (cy3, 100, Sum.inl f3)), (q5, Sum.inl (cy5, 100, Sum.inl f5)), (q6, Sum.inl (cy6, 100, Sum.inl g_11)), (h0, Sum.inr (5, [Value.int (nI w), Value.int (nI h), Value.ref q1, Value.ref q2, Value.ref q3, Value.ref q4, Value.ref q5, Value.ref q6])), (q1, Sum.inl (cy1, 100, Sum.inl f1))] H := hP
          have hD : va_D A [(q2, Sum.inl (cy2, 100, Sum.inl f2)), (q3, Sum.inl (cy3, 100, Sum.inl f3)), (q5, Sum.inl (cy5, 100, Sum.inl f5)), (q6, Sum.inl (cy6, 100, Sum.inl g_11)), (h0, Sum.inr (5, [Value.int (nI w), Value.int (nI h), Value.ref q1, Value.ref q2, Value.ref q3, Value.ref q4, Value.ref q5, Value.ref q6])), (q1, Sum.inl (cy1, 100, Sum.inl f1))] := hD
          refine lv_iload_n hx hb dX6_markBreaking_94 rfl (lv_at hl 4 rfl) ?_
          refine lv_if_ne (tgt := 108) hx hb dX6_markBreaking_95 (by decide) (fun c_12 => ?_) (fun c_12 => ?_)
          · skip
            refine lv_iconst (v := 1) hx hb dX6_markBreaking_108 (by decide) ?_
            refine lv_goto (tgt := 113) hx hb dX6_markBreaking_109 (by decide) ?_
            refine lv_istore_n (lv' := [(2, Value.int 1), (6, Value.int 1), (5, Value.int (nI (j * 10 + i))), (0, Value.ref h0), (1, Value.int b), (3, Value.int (nI j)), (4, Value.int (nI i))]) hx hb dX6_markBreaking_113 rfl hl (by decide) rfl (fun ls hl => ?_)
            refine lv_iinc (v := nI (i + 1)) (lv' := [(4, Value.int (nI (i + 1))), (2, Value.int 1), (6, Value.int 1), (5, Value.int (nI (j * 10 + i))), (0, Value.ref h0), (1, Value.int b), (3, Value.int (nI j))]) hx hb dX6_markBreaking_114 hl (k := 6) rfl (nI_add i 1) (by decide) rfl (fun ls hl => ?_)
            refine lv_goto (tgt := 15) hx hb dX6_markBreaking_117 (by decide) ?_
            exact ih g_11 1 (i + 1) (by omega) (by omega) (by omega) (by omega) (mk_s hmk eg_11 ((mk_0 (fun q => hcz q.2)).trans (by decide))) (Or.inl ⟨rfl, mk_e0 (by omega) (han.resolve_right (fun q => c_12 q.1)).2 eg_11⟩) (by omega) H locs (hP.sub [4, 5, 0, 1, 2, 3] rfl) (hD.sub [4, 5, 0, 1, 2, 3] (by decide) rfl) hS ls (lv_sub hl [4, 5, 1, 6, 0] rfl)
          · skip
            refine lv_aload_n hx hb dX6_markBreaking_98 rfl (lv_at hl 2 rfl) ?_
            refine va_get (D := D) (ci := 5) (v := Value.ref q6) (C := RX6) (T := TX6) (N := 8) hx hb hts inG_X6 hown hK hP 4 rfl rfl 7 (by decide) (hts _ kw_1_159) (fun _ h9 => h9) rfl dX6_markBreaking_99 ?_
            refine lv_iload hx hb dX6_markBreaking_102 (lv_at hl 1 rfl) ?_
            refine m_zald hx hb hK hP 3 4 rfl rfl (j * 10 + i) rfl (by omega) (by decide) dX6_markBreaking_104 ?_
            refine lv_topi (fun v_13 ev_13 => ?_)
            refine lv_if_eq (tgt := 112) hx hb dX6_markBreaking_105 (by decide) (fun c_14 => ?_) (fun c_14 => ?_)
            · skip
              refine lv_iconst (v := 0) hx hb dX6_markBreaking_112 (by decide) ?_
              refine lv_istore_n (lv' := [(2, Value.int 0), (6, Value.int 1), (5, Value.int (nI (j * 10 + i))), (0, Value.ref h0), (1, Value.int b), (3, Value.int (nI j)), (4, Value.int (nI i))]) hx hb dX6_markBreaking_113 rfl hl (by decide) rfl (fun ls hl => ?_)
              refine lv_iinc (v := nI (i + 1)) (lv' := [(4, Value.int (nI (i + 1))), (2, Value.int 0), (6, Value.int 1), (5, Value.int (nI (j * 10 + i))), (0, Value.ref h0), (1, Value.int b), (3, Value.int (nI j))]) hx hb dX6_markBreaking_114 hl (k := 6) rfl (nI_add i 1) (by decide) rfl (fun ls hl => ?_)
              refine lv_goto (tgt := 15) hx hb dX6_markBreaking_117 (by decide) ?_
              exact ih g_11 0 (i + 1) (by omega) (by omega) (by omega) (by omega) (mk_s hmk eg_11 ((mk_0 (fun q => hcz q.2)).trans (by decide))) (Or.inr ⟨rfl, mk_a0 (han.resolve_left (fun q => absurd (q.1.symm.trans c_12) (by decide))).2 eg_11⟩) (by omega) H locs (hP.sub [4, 5, 0, 1, 2, 3] rfl) (hD.sub [4, 5, 0, 1, 2, 3] (by decide) rfl) hS ls (lv_sub hl [4, 5, 1, 6, 0] rfl)
            · skip
              exact absurd (by rw [ev_13, eg_11, pk_us]; rfl) c_14
        · skip
          have hcz : f5 (j * 10 + i) = 0 := by rw [← ev_9]; exact c_10
          refine lv_iconst (v := 1) hx hb dX6_markBreaking_88 (by decide) ?_
          refine lv_goto (tgt := 93) hx hb dX6_markBreaking_89 (by decide) ?_
          refine m_zast hx hb hK hP hD hS 3 4 rfl rfl (j * 10 + i) rfl (by omega) (by decide) dX6_markBreaking_93 (fun g_15 H locs eg_15 hP hD hS => ?_)
          have hP : va_P D vwCl [(q2, Sum.inl (cy2, 100, Sum.inl f2)), (q3, Sum.inl (cy3, 100, Sum.inl f3)), (q5, Sum.inl (cy5, 100, Sum.inl f5)), (q6, Sum.inl (cy6, 100, Sum.inl g_15)), (h0, Sum.inr (5, [Value.int (nI w), Value.int (nI h), Value.ref q1, Value.ref q2, Value.ref q3, Value.ref q4, Value.ref q5, Value.ref q6])), (q1, Sum.inl (cy1, 100, Sum.inl f1))] H := hP
          have hD : va_D A [(q2, Sum.inl (cy2, 100, Sum.inl f2)), (q3, Sum.inl (cy3, 100, Sum.inl f3)), (q5, Sum.inl (cy5, 100, Sum.inl f5)), (q6, Sum.inl (cy6, 100, Sum.inl g_15)), (h0, Sum.inr (5, [Value.int (nI w), Value.int (nI h), Value.ref q1, Value.ref q2, Value.ref q3, Value.ref q4, Value.ref q5, Value.ref q6])), (q1, Sum.inl (cy1, 100, Sum.inl f1))] := hD
          refine lv_iload_n hx hb dX6_markBreaking_94 rfl (lv_at hl 4 rfl) ?_
          refine lv_if_ne (tgt := 108) hx hb dX6_markBreaking_95 (by decide) (fun c_16 => ?_) (fun c_16 => ?_)
          · skip
            refine lv_iconst (v := 1) hx hb dX6_markBreaking_108 (by decide) ?_
            refine lv_goto (tgt := 113) hx hb dX6_markBreaking_109 (by decide) ?_
            refine lv_istore_n (lv' := [(2, Value.int 1), (6, Value.int 1), (5, Value.int (nI (j * 10 + i))), (0, Value.ref h0), (1, Value.int b), (3, Value.int (nI j)), (4, Value.int (nI i))]) hx hb dX6_markBreaking_113 rfl hl (by decide) rfl (fun ls hl => ?_)
            refine lv_iinc (v := nI (i + 1)) (lv' := [(4, Value.int (nI (i + 1))), (2, Value.int 1), (6, Value.int 1), (5, Value.int (nI (j * 10 + i))), (0, Value.ref h0), (1, Value.int b), (3, Value.int (nI j))]) hx hb dX6_markBreaking_114 hl (k := 6) rfl (nI_add i 1) (by decide) rfl (fun ls hl => ?_)
            refine lv_goto (tgt := 15) hx hb dX6_markBreaking_117 (by decide) ?_
            exact ih g_15 1 (i + 1) (by omega) (by omega) (by omega) (by omega) (mk_s hmk eg_15 ((mk_1 (Or.inl hbr) hcz).trans (by decide))) (Or.inl ⟨rfl, mk_e0 (by omega) (han.resolve_right (fun q => c_16 q.1)).2 eg_15⟩) (by omega) H locs (hP.sub [4, 5, 0, 1, 2, 3] rfl) (hD.sub [4, 5, 0, 1, 2, 3] (by decide) rfl) hS ls (lv_sub hl [4, 5, 1, 6, 0] rfl)
          · skip
            refine lv_aload_n hx hb dX6_markBreaking_98 rfl (lv_at hl 2 rfl) ?_
            refine va_get (D := D) (ci := 5) (v := Value.ref q6) (C := RX6) (T := TX6) (N := 8) hx hb hts inG_X6 hown hK hP 4 rfl rfl 7 (by decide) (hts _ kw_1_159) (fun _ h9 => h9) rfl dX6_markBreaking_99 ?_
            refine lv_iload hx hb dX6_markBreaking_102 (lv_at hl 1 rfl) ?_
            refine m_zald hx hb hK hP 3 4 rfl rfl (j * 10 + i) rfl (by omega) (by decide) dX6_markBreaking_104 ?_
            refine lv_topi (fun v_17 ev_17 => ?_)
            refine lv_if_eq (tgt := 112) hx hb dX6_markBreaking_105 (by decide) (fun c_18 => ?_) (fun c_18 => ?_)
            · skip
              exact absurd (c_18) (by rw [ev_17, eg_15, pk_us]; decide)
            · skip
              refine lv_iconst (v := 1) hx hb dX6_markBreaking_108 (by decide) ?_
              refine lv_goto (tgt := 113) hx hb dX6_markBreaking_109 (by decide) ?_
              refine lv_istore_n (lv' := [(2, Value.int 1), (6, Value.int 1), (5, Value.int (nI (j * 10 + i))), (0, Value.ref h0), (1, Value.int b), (3, Value.int (nI j)), (4, Value.int (nI i))]) hx hb dX6_markBreaking_113 rfl hl (by decide) rfl (fun ls hl => ?_)
              refine lv_iinc (v := nI (i + 1)) (lv' := [(4, Value.int (nI (i + 1))), (2, Value.int 1), (6, Value.int 1), (5, Value.int (nI (j * 10 + i))), (0, Value.ref h0), (1, Value.int b), (3, Value.int (nI j))]) hx hb dX6_markBreaking_114 hl (k := 6) rfl (nI_add i 1) (by decide) rfl (fun ls hl => ?_)
              refine lv_goto (tgt := 15) hx hb dX6_markBreaking_117 (by decide) ?_
              exact ih g_15 1 (i + 1) (by omega) (by omega) (by omega) (by omega) (mk_s hmk eg_15 ((mk_1 (Or.inl hbr) hcz).trans (by decide))) (Or.inl ⟨rfl, j * 10 + i, by omega, by omega, Or.inr (by omega), by rw [eg_15, pk_us]; decide⟩) (by omega) H locs (hP.sub [4, 5, 0, 1, 2, 3] rfl) (hD.sub [4, 5, 0, 1, 2, 3] (by decide) rfl) hS ls (lv_sub hl [4, 5, 1, 6, 0] rfl)
      · skip
        have hbr : ¬ brI f1 b (j * 10 + i) < f3 (j * 10 + i) := by rw [← ev_4]; show ¬ f1 _ * f1 _ * b / 100 < _; rw [← hw_6]; exact c_7
        refine lv_aload_n hx hb dX6_markBreaking_50 rfl (lv_at hl 1 rfl) ?_
        refine va_get (D := D) (ci := 5) (v := Value.ref q2) (C := RX6) (T := TX6) (N := 8) hx hb hts inG_X6 hown hK hP 4 rfl rfl 3 (by decide) (hts _ kw_1_150) (fun _ h9 => h9) rfl dX6_markBreaking_51 ?_
        refine lv_iload hx hb dX6_markBreaking_54 (lv_at hl 0 rfl) ?_
        refine m_iald hx hb hK hP 0 1 rfl rfl (j * 10 + i) rfl (by omega) (by decide) dX6_markBreaking_56 ?_
        refine lv_topi (fun v_19 ev_19 => ?_)
        refine lv_if_ne (tgt := 64) hx hb dX6_markBreaking_57 (by decide) (fun c_20 => ?_) (fun c_20 => ?_)
        · skip
          have hhz : ¬ f2 (j * 10 + i) = 0 := by rw [← ev_19]; exact c_20
          refine lv_iconst (v := 0) hx hb dX6_markBreaking_64 (by decide) ?_
          refine lv_istore (lv' := [(6, Value.int 0), (5, Value.int (nI (j * 10 + i))), (0, Value.ref h0), (1, Value.int b), (2, Value.int an), (3, Value.int (nI j)), (4, Value.int (nI i))]) hx hb dX6_markBreaking_65 hl (by decide) rfl (fun ls hl => ?_)
          refine lv_aload_n hx hb dX6_markBreaking_67 rfl (lv_at hl 2 rfl) ?_
          refine va_get (D := D) (ci := 5) (v := Value.ref q6) (C := RX6) (T := TX6) (N := 8) hx hb hts inG_X6 hown hK hP 4 rfl rfl 7 (by decide) (hts _ kw_1_159) (fun _ h9 => h9) rfl dX6_markBreaking_68 ?_
          refine lv_iload hx hb dX6_markBreaking_71 (lv_at hl 1 rfl) ?_
          refine lv_iload hx hb dX6_markBreaking_73 (lv_at hl 0 rfl) ?_
          refine lv_if_eq (tgt := 92) hx hb dX6_markBreaking_75 (by decide) (fun c_21 => ?_) (fun c_21 => absurd c_21 (by decide))
          refine lv_iconst (v := 0) hx hb dX6_markBreaking_92 (by decide) ?_
          refine m_zast hx hb hK hP hD hS 3 4 rfl rfl (j * 10 + i) rfl (by omega) (by decide) dX6_markBreaking_93 (fun g_22 H locs eg_22 hP hD hS => ?_)
          have hP : va_P D vwCl [(q2, Sum.inl (cy2, 100, Sum.inl f2)), (q3, Sum.inl (cy3, 100, Sum.inl f3)), (q5, Sum.inl (cy5, 100, Sum.inl f5)), (q6, Sum.inl (cy6, 100, Sum.inl g_22)), (h0, Sum.inr (5, [Value.int (nI w), Value.int (nI h), Value.ref q1, Value.ref q2, Value.ref q3, Value.ref q4, Value.ref q5, Value.ref q6])), (q1, Sum.inl (cy1, 100, Sum.inl f1))] H := hP
          have hD : va_D A [(q2, Sum.inl (cy2, 100, Sum.inl f2)), (q3, Sum.inl (cy3, 100, Sum.inl f3)), (q5, Sum.inl (cy5, 100, Sum.inl f5)), (q6, Sum.inl (cy6, 100, Sum.inl g_22)), (h0, Sum.inr (5, [Value.int (nI w), Value.int (nI h), Value.ref q1, Value.ref q2, Value.ref q3, Value.ref q4, Value.ref q5, Value.ref q6])), (q1, Sum.inl (cy1, 100, Sum.inl f1))] := hD
          refine lv_iload_n hx hb dX6_markBreaking_94 rfl (lv_at hl 4 rfl) ?_
          refine lv_if_ne (tgt := 108) hx hb dX6_markBreaking_95 (by decide) (fun c_23 => ?_) (fun c_23 => ?_)
          · skip
            refine lv_iconst (v := 1) hx hb dX6_markBreaking_108 (by decide) ?_
            refine lv_goto (tgt := 113) hx hb dX6_markBreaking_109 (by decide) ?_
            refine lv_istore_n (lv' := [(2, Value.int 1), (6, Value.int 0), (5, Value.int (nI (j * 10 + i))), (0, Value.ref h0), (1, Value.int b), (3, Value.int (nI j)), (4, Value.int (nI i))]) hx hb dX6_markBreaking_113 rfl hl (by decide) rfl (fun ls hl => ?_)
            refine lv_iinc (v := nI (i + 1)) (lv' := [(4, Value.int (nI (i + 1))), (2, Value.int 1), (6, Value.int 0), (5, Value.int (nI (j * 10 + i))), (0, Value.ref h0), (1, Value.int b), (3, Value.int (nI j))]) hx hb dX6_markBreaking_114 hl (k := 6) rfl (nI_add i 1) (by decide) rfl (fun ls hl => ?_)
            refine lv_goto (tgt := 15) hx hb dX6_markBreaking_117 (by decide) ?_
            exact ih g_22 1 (i + 1) (by omega) (by omega) (by omega) (by omega) (mk_s hmk eg_22 ((mk_0 (fun q => q.1.elim hbr hhz)).trans (by decide))) (Or.inl ⟨rfl, mk_e0 (by omega) (han.resolve_right (fun q => c_23 q.1)).2 eg_22⟩) (by omega) H locs (hP.sub [4, 5, 0, 1, 2, 3] rfl) (hD.sub [4, 5, 0, 1, 2, 3] (by decide) rfl) hS ls (lv_sub hl [4, 5, 1, 6, 0] rfl)
          · skip
            refine lv_aload_n hx hb dX6_markBreaking_98 rfl (lv_at hl 2 rfl) ?_
            refine va_get (D := D) (ci := 5) (v := Value.ref q6) (C := RX6) (T := TX6) (N := 8) hx hb hts inG_X6 hown hK hP 4 rfl rfl 7 (by decide) (hts _ kw_1_159) (fun _ h9 => h9) rfl dX6_markBreaking_99 ?_
            refine lv_iload hx hb dX6_markBreaking_102 (lv_at hl 1 rfl) ?_
            refine m_zald hx hb hK hP 3 4 rfl rfl (j * 10 + i) rfl (by omega) (by decide) dX6_markBreaking_104 ?_
            refine lv_topi (fun v_24 ev_24 => ?_)
            refine lv_if_eq (tgt := 112) hx hb dX6_markBreaking_105 (by decide) (fun c_25 => ?_) (fun c_25 => ?_)
            · skip
              refine lv_iconst (v := 0) hx hb dX6_markBreaking_112 (by decide) ?_
              refine lv_istore_n (lv' := [(2, Value.int 0), (6, Value.int 0), (5, Value.int (nI (j * 10 + i))), (0, Value.ref h0), (1, Value.int b), (3, Value.int (nI j)), (4, Value.int (nI i))]) hx hb dX6_markBreaking_113 rfl hl (by decide) rfl (fun ls hl => ?_)
              refine lv_iinc (v := nI (i + 1)) (lv' := [(4, Value.int (nI (i + 1))), (2, Value.int 0), (6, Value.int 0), (5, Value.int (nI (j * 10 + i))), (0, Value.ref h0), (1, Value.int b), (3, Value.int (nI j))]) hx hb dX6_markBreaking_114 hl (k := 6) rfl (nI_add i 1) (by decide) rfl (fun ls hl => ?_)
              refine lv_goto (tgt := 15) hx hb dX6_markBreaking_117 (by decide) ?_
              exact ih g_22 0 (i + 1) (by omega) (by omega) (by omega) (by omega) (mk_s hmk eg_22 ((mk_0 (fun q => q.1.elim hbr hhz)).trans (by decide))) (Or.inr ⟨rfl, mk_a0 (han.resolve_left (fun q => absurd (q.1.symm.trans c_23) (by decide))).2 eg_22⟩) (by omega) H locs (hP.sub [4, 5, 0, 1, 2, 3] rfl) (hD.sub [4, 5, 0, 1, 2, 3] (by decide) rfl) hS ls (lv_sub hl [4, 5, 1, 6, 0] rfl)
            · skip
              exact absurd (by rw [ev_24, eg_22, pk_us]; rfl) c_25
        · skip
          have hhz : f2 (j * 10 + i) = 0 := by rw [← ev_19]; exact c_20
          refine lv_iconst (v := 1) hx hb dX6_markBreaking_60 (by decide) ?_
          refine lv_goto (tgt := 65) hx hb dX6_markBreaking_61 (by decide) ?_
          refine lv_istore (lv' := [(6, Value.int 1), (5, Value.int (nI (j * 10 + i))), (0, Value.ref h0), (1, Value.int b), (2, Value.int an), (3, Value.int (nI j)), (4, Value.int (nI i))]) hx hb dX6_markBreaking_65 hl (by decide) rfl (fun ls hl => ?_)
          refine lv_aload_n hx hb dX6_markBreaking_67 rfl (lv_at hl 2 rfl) ?_
          refine va_get (D := D) (ci := 5) (v := Value.ref q6) (C := RX6) (T := TX6) (N := 8) hx hb hts inG_X6 hown hK hP 4 rfl rfl 7 (by decide) (hts _ kw_1_159) (fun _ h9 => h9) rfl dX6_markBreaking_68 ?_
          refine lv_iload hx hb dX6_markBreaking_71 (lv_at hl 1 rfl) ?_
          refine lv_iload hx hb dX6_markBreaking_73 (lv_at hl 0 rfl) ?_
          refine lv_if_eq (tgt := 92) hx hb dX6_markBreaking_75 (by decide) (fun c_26 => absurd c_26 (by decide)) (fun c_26 => ?_)
          refine lv_aload_n hx hb dX6_markBreaking_78 rfl (lv_at hl 2 rfl) ?_
          refine va_get (D := D) (ci := 5) (v := Value.ref q5) (C := RX6) (T := TX6) (N := 8) hx hb hts inG_X6 hown hK hP 4 rfl rfl 6 (by decide) (hts _ kw_1_157) (fun _ h9 => h9) rfl dX6_markBreaking_79 ?_
          refine lv_iload hx hb dX6_markBreaking_82 (lv_at hl 1 rfl) ?_
          refine m_zald hx hb hK hP 2 3 rfl rfl (j * 10 + i) rfl (by omega) (by decide) dX6_markBreaking_84 ?_
          refine lv_topi (fun v_27 ev_27 => ?_)
          refine lv_if_ne (tgt := 92) hx hb dX6_markBreaking_85 (by decide) (fun c_28 => ?_) (fun c_28 => ?_)
          · skip
            have hcz : ¬ f5 (j * 10 + i) = 0 := by rw [← ev_27]; exact c_28
            refine lv_iconst (v := 0) hx hb dX6_markBreaking_92 (by decide) ?_
            refine m_zast hx hb hK hP hD hS 3 4 rfl rfl (j * 10 + i) rfl (by omega) (by decide) dX6_markBreaking_93 (fun g_29 H locs eg_29 hP hD hS => ?_)
            have hP : va_P D vwCl [(q2, Sum.inl (cy2, 100, Sum.inl f2)), (q3, Sum.inl (cy3, 100, Sum.inl f3)), (q5, Sum.inl (cy5, 100, Sum.inl f5)), (q6, Sum.inl (cy6, 100, Sum.inl g_29)), (h0, Sum.inr (5, [Value.int (nI w), Value.int (nI h), Value.ref q1, Value.ref q2, Value.ref q3, Value.ref q4, Value.ref q5, Value.ref q6])), (q1, Sum.inl (cy1, 100, Sum.inl f1))] H := hP
            have hD : va_D A [(q2, Sum.inl (cy2, 100, Sum.inl f2)), (q3, Sum.inl (cy3, 100, Sum.inl f3)), (q5, Sum.inl (cy5, 100, Sum.inl f5)), (q6, Sum.inl (cy6, 100, Sum.inl g_29)), (h0, Sum.inr (5, [Value.int (nI w), Value.int (nI h), Value.ref q1, Value.ref q2, Value.ref q3, Value.ref q4, Value.ref q5, Value.ref q6])), (q1, Sum.inl (cy1, 100, Sum.inl f1))] := hD
            refine lv_iload_n hx hb dX6_markBreaking_94 rfl (lv_at hl 4 rfl) ?_
            refine lv_if_ne (tgt := 108) hx hb dX6_markBreaking_95 (by decide) (fun c_30 => ?_) (fun c_30 => ?_)
            · skip
              refine lv_iconst (v := 1) hx hb dX6_markBreaking_108 (by decide) ?_
              refine lv_goto (tgt := 113) hx hb dX6_markBreaking_109 (by decide) ?_
              refine lv_istore_n (lv' := [(2, Value.int 1), (6, Value.int 1), (5, Value.int (nI (j * 10 + i))), (0, Value.ref h0), (1, Value.int b), (3, Value.int (nI j)), (4, Value.int (nI i))]) hx hb dX6_markBreaking_113 rfl hl (by decide) rfl (fun ls hl => ?_)
              refine lv_iinc (v := nI (i + 1)) (lv' := [(4, Value.int (nI (i + 1))), (2, Value.int 1), (6, Value.int 1), (5, Value.int (nI (j * 10 + i))), (0, Value.ref h0), (1, Value.int b), (3, Value.int (nI j))]) hx hb dX6_markBreaking_114 hl (k := 6) rfl (nI_add i 1) (by decide) rfl (fun ls hl => ?_)
              refine lv_goto (tgt := 15) hx hb dX6_markBreaking_117 (by decide) ?_
              exact ih g_29 1 (i + 1) (by omega) (by omega) (by omega) (by omega) (mk_s hmk eg_29 ((mk_0 (fun q => hcz q.2)).trans (by decide))) (Or.inl ⟨rfl, mk_e0 (by omega) (han.resolve_right (fun q => c_30 q.1)).2 eg_29⟩) (by omega) H locs (hP.sub [4, 5, 0, 1, 2, 3] rfl) (hD.sub [4, 5, 0, 1, 2, 3] (by decide) rfl) hS ls (lv_sub hl [4, 5, 1, 6, 0] rfl)
            · skip
              refine lv_aload_n hx hb dX6_markBreaking_98 rfl (lv_at hl 2 rfl) ?_
              refine va_get (D := D) (ci := 5) (v := Value.ref q6) (C := RX6) (T := TX6) (N := 8) hx hb hts inG_X6 hown hK hP 4 rfl rfl 7 (by decide) (hts _ kw_1_159) (fun _ h9 => h9) rfl dX6_markBreaking_99 ?_
              refine lv_iload hx hb dX6_markBreaking_102 (lv_at hl 1 rfl) ?_
              refine m_zald hx hb hK hP 3 4 rfl rfl (j * 10 + i) rfl (by omega) (by decide) dX6_markBreaking_104 ?_
              refine lv_topi (fun v_31 ev_31 => ?_)
              refine lv_if_eq (tgt := 112) hx hb dX6_markBreaking_105 (by decide) (fun c_32 => ?_) (fun c_32 => ?_)
              · skip
                refine lv_iconst (v := 0) hx hb dX6_markBreaking_112 (by decide) ?_
                refine lv_istore_n (lv' := [(2, Value.int 0), (6, Value.int 1), (5, Value.int (nI (j * 10 + i))), (0, Value.ref h0), (1, Value.int b), (3, Value.int (nI j)), (4, Value.int (nI i))]) hx hb dX6_markBreaking_113 rfl hl (by decide) rfl (fun ls hl => ?_)
                refine lv_iinc (v := nI (i + 1)) (lv' := [(4, Value.int (nI (i + 1))), (2, Value.int 0), (6, Value.int 1), (5, Value.int (nI (j * 10 + i))), (0, Value.ref h0), (1, Value.int b), (3, Value.int (nI j))]) hx hb dX6_markBreaking_114 hl (k := 6) rfl (nI_add i 1) (by decide) rfl (fun ls hl => ?_)
                refine lv_goto (tgt := 15) hx hb dX6_markBreaking_117 (by decide) ?_
                exact ih g_29 0 (i + 1) (by omega) (by omega) (by omega) (by omega) (mk_s hmk eg_29 ((mk_0 (fun q => hcz q.2)).trans (by decide))) (Or.inr ⟨rfl, mk_a0 (han.resolve_left (fun q => absurd (q.1.symm.trans c_30) (by decide))).2 eg_29⟩) (by omega) H locs (hP.sub [4, 5, 0, 1, 2, 3] rfl) (hD.sub [4, 5, 0, 1, 2, 3] (by decide) rfl) hS ls (lv_sub hl [4, 5, 1, 6, 0] rfl)
              · skip
                exact absurd (by rw [ev_31, eg_29, pk_us]; rfl) c_32
          · skip
            have hcz : f5 (j * 10 + i) = 0 := by rw [← ev_27]; exact c_28
            refine lv_iconst (v := 1) hx hb dX6_markBreaking_88 (by decide) ?_
            refine lv_goto (tgt := 93) hx hb dX6_markBreaking_89 (by decide) ?_
            refine m_zast hx hb hK hP hD hS 3 4 rfl rfl (j * 10 + i) rfl (by omega) (by decide) dX6_markBreaking_93 (fun g_33 H locs eg_33 hP hD hS => ?_)
            have hP : va_P D vwCl [(q2, Sum.inl (cy2, 100, Sum.inl f2)), (q3, Sum.inl (cy3, 100, Sum.inl f3)), (q5, Sum.inl (cy5, 100, Sum.inl f5)), (q6, Sum.inl (cy6, 100, Sum.inl g_33)), (h0, Sum.inr (5, [Value.int (nI w), Value.int (nI h), Value.ref q1, Value.ref q2, Value.ref q3, Value.ref q4, Value.ref q5, Value.ref q6])), (q1, Sum.inl (cy1, 100, Sum.inl f1))] H := hP
            have hD : va_D A [(q2, Sum.inl (cy2, 100, Sum.inl f2)), (q3, Sum.inl (cy3, 100, Sum.inl f3)), (q5, Sum.inl (cy5, 100, Sum.inl f5)), (q6, Sum.inl (cy6, 100, Sum.inl g_33)), (h0, Sum.inr (5, [Value.int (nI w), Value.int (nI h), Value.ref q1, Value.ref q2, Value.ref q3, Value.ref q4, Value.ref q5, Value.ref q6])), (q1, Sum.inl (cy1, 100, Sum.inl f1))] := hD
            refine lv_iload_n hx hb dX6_markBreaking_94 rfl (lv_at hl 4 rfl) ?_
            refine lv_if_ne (tgt := 108) hx hb dX6_markBreaking_95 (by decide) (fun c_34 => ?_) (fun c_34 => ?_)
            · skip
              refine lv_iconst (v := 1) hx hb dX6_markBreaking_108 (by decide) ?_
              refine lv_goto (tgt := 113) hx hb dX6_markBreaking_109 (by decide) ?_
              refine lv_istore_n (lv' := [(2, Value.int 1), (6, Value.int 1), (5, Value.int (nI (j * 10 + i))), (0, Value.ref h0), (1, Value.int b), (3, Value.int (nI j)), (4, Value.int (nI i))]) hx hb dX6_markBreaking_113 rfl hl (by decide) rfl (fun ls hl => ?_)
              refine lv_iinc (v := nI (i + 1)) (lv' := [(4, Value.int (nI (i + 1))), (2, Value.int 1), (6, Value.int 1), (5, Value.int (nI (j * 10 + i))), (0, Value.ref h0), (1, Value.int b), (3, Value.int (nI j))]) hx hb dX6_markBreaking_114 hl (k := 6) rfl (nI_add i 1) (by decide) rfl (fun ls hl => ?_)
              refine lv_goto (tgt := 15) hx hb dX6_markBreaking_117 (by decide) ?_
              exact ih g_33 1 (i + 1) (by omega) (by omega) (by omega) (by omega) (mk_s hmk eg_33 ((mk_1 (Or.inr hhz) hcz).trans (by decide))) (Or.inl ⟨rfl, mk_e0 (by omega) (han.resolve_right (fun q => c_34 q.1)).2 eg_33⟩) (by omega) H locs (hP.sub [4, 5, 0, 1, 2, 3] rfl) (hD.sub [4, 5, 0, 1, 2, 3] (by decide) rfl) hS ls (lv_sub hl [4, 5, 1, 6, 0] rfl)
            · skip
              refine lv_aload_n hx hb dX6_markBreaking_98 rfl (lv_at hl 2 rfl) ?_
              refine va_get (D := D) (ci := 5) (v := Value.ref q6) (C := RX6) (T := TX6) (N := 8) hx hb hts inG_X6 hown hK hP 4 rfl rfl 7 (by decide) (hts _ kw_1_159) (fun _ h9 => h9) rfl dX6_markBreaking_99 ?_
              refine lv_iload hx hb dX6_markBreaking_102 (lv_at hl 1 rfl) ?_
              refine m_zald hx hb hK hP 3 4 rfl rfl (j * 10 + i) rfl (by omega) (by decide) dX6_markBreaking_104 ?_
              refine lv_topi (fun v_35 ev_35 => ?_)
              refine lv_if_eq (tgt := 112) hx hb dX6_markBreaking_105 (by decide) (fun c_36 => ?_) (fun c_36 => ?_)
              · skip
                exact absurd (c_36) (by rw [ev_35, eg_33, pk_us]; decide)
              · skip
                refine lv_iconst (v := 1) hx hb dX6_markBreaking_108 (by decide) ?_
                refine lv_goto (tgt := 113) hx hb dX6_markBreaking_109 (by decide) ?_
                refine lv_istore_n (lv' := [(2, Value.int 1), (6, Value.int 1), (5, Value.int (nI (j * 10 + i))), (0, Value.ref h0), (1, Value.int b), (3, Value.int (nI j)), (4, Value.int (nI i))]) hx hb dX6_markBreaking_113 rfl hl (by decide) rfl (fun ls hl => ?_)
                refine lv_iinc (v := nI (i + 1)) (lv' := [(4, Value.int (nI (i + 1))), (2, Value.int 1), (6, Value.int 1), (5, Value.int (nI (j * 10 + i))), (0, Value.ref h0), (1, Value.int b), (3, Value.int (nI j))]) hx hb dX6_markBreaking_114 hl (k := 6) rfl (nI_add i 1) (by decide) rfl (fun ls hl => ?_)
                refine lv_goto (tgt := 15) hx hb dX6_markBreaking_117 (by decide) ?_
                exact ih g_33 1 (i + 1) (by omega) (by omega) (by omega) (by omega) (mk_s hmk eg_33 ((mk_1 (Or.inr hhz) hcz).trans (by decide))) (Or.inl ⟨rfl, j * 10 + i, by omega, by omega, Or.inr (by omega), by rw [eg_33, pk_us]; decide⟩) (by omega) H locs (hP.sub [4, 5, 0, 1, 2, 3] rfl) (hD.sub [4, 5, 0, 1, 2, 3] (by decide) rfl) hS ls (lv_sub hl [4, 5, 1, 6, 0] rfl)
set_option maxHeartbeats 4000000 in
set_option maxRecDepth 100000 in
theorem lp_s_mark_out {p : Program} {l : Launch} {e : Env} {s : State} {m : MethodId} {args : Array Value} {below : List Frame} {meth : Method} {c : Code} {Q : State → Prop} {A : Nat → Prop} {D : va_G} (F : mFix p s m args c cX6_markBreaking 7 RX6) (hA : ∀ q, s.heap.size ≤ q → A q) (h0 : Nat) (w : Nat) (h : Nat) (q1 : Nat) (q2 : Nat) (q3 : Nat) (q4 : Nat) (q5 : Nat) (q6 : Nat) (cy1 : ClassId) (f1 : Nat → Int32) (cy2 : ClassId) (f2 : Nat → Int32) (cy3 : ClassId) (f3 : Nat → Int32) (cy5 : ClassId) (f5 : Nat → Int32) (cy6 : ClassId) (b : Int32) (hK : va_K D vwCl [(cy1, .int), (cy2, .int), (cy3, .int), (cy5, .boolean), (cy6, .boolean)] s)
    (kx_126 : ∀ (g6 : Nat → Int32) (an : Int32), (∀ c, c % 10 < w → c / 10 < h → True → g6 c = mkI f1 f2 f3 f5 b c) → ((an = 1 ∧ ∃ c, c % 10 < w ∧ c / 10 < h ∧ True ∧ ¬ g6 c = 0) ∨ (an = 0 ∧ ∀ c, c % 10 < w → c / 10 < h → True → g6 c = 0)) → ∀ (H : Heap) (locs : List Loc), va_P D vwCl [(h0, Sum.inr (5, [Value.int (nI w), Value.int (nI h), Value.ref q1, Value.ref q2, Value.ref q3, Value.ref q4, Value.ref q5, Value.ref q6])), (q1, Sum.inl (cy1, 100, Sum.inl f1)), (q2, Sum.inl (cy2, 100, Sum.inl f2)), (q3, Sum.inl (cy3, 100, Sum.inl f3)), (q5, Sum.inl (cy5, 100, Sum.inl f5)), (q6, Sum.inl (cy6, 100, Sum.inl g6))] H → va_D A [(h0, Sum.inr (5, [Value.int (nI w), Value.int (nI h), Value.ref q1, Value.ref q2, Value.ref q3, Value.ref q4, Value.ref q5, Value.ref q6])), (q1, Sum.inl (cy1, 100, Sum.inl f1)), (q2, Sum.inl (cy2, 100, Sum.inl f2)), (q3, Sum.inl (cy3, 100, Sum.inl f3)), (q5, Sum.inl (cy5, 100, Sum.inl f5)), (q6, Sum.inl (cy6, 100, Sum.inl g6))] → va_S A s.heap H locs → ∀ ls : Array Slot, lv_has ls 7 [(2, Value.int an)] → W p l e ({ frames := 1, cells := 0, slots := 0, locals := 22 }) s m args below meth c H locs 0 0 Q (F0 m 126 ls [])) :
    ∀ n : Nat, ∀ (g6 : Nat → Int32) (an : Int32) (j : Nat), (j ≤ h) → (w ≤ 10) → (h ≤ 10) → (∀ c, c % 10 < w → c / 10 < h → c / 10 < j → g6 c = mkI f1 f2 f3 f5 b c) → ((an = 1 ∧ ∃ c, c % 10 < w ∧ c / 10 < h ∧ c / 10 < j ∧ ¬ g6 c = 0) ∨ (an = 0 ∧ ∀ c, c % 10 < w → c / 10 < h → c / 10 < j → g6 c = 0)) → (h - j) < n → ∀ (H : Heap) (locs : List Loc), va_P D vwCl [(h0, Sum.inr (5, [Value.int (nI w), Value.int (nI h), Value.ref q1, Value.ref q2, Value.ref q3, Value.ref q4, Value.ref q5, Value.ref q6])), (q1, Sum.inl (cy1, 100, Sum.inl f1)), (q2, Sum.inl (cy2, 100, Sum.inl f2)), (q3, Sum.inl (cy3, 100, Sum.inl f3)), (q5, Sum.inl (cy5, 100, Sum.inl f5)), (q6, Sum.inl (cy6, 100, Sum.inl g6))] H → va_D A [(h0, Sum.inr (5, [Value.int (nI w), Value.int (nI h), Value.ref q1, Value.ref q2, Value.ref q3, Value.ref q4, Value.ref q5, Value.ref q6])), (q1, Sum.inl (cy1, 100, Sum.inl f1)), (q2, Sum.inl (cy2, 100, Sum.inl f2)), (q3, Sum.inl (cy3, 100, Sum.inl f3)), (q5, Sum.inl (cy5, 100, Sum.inl f5)), (q6, Sum.inl (cy6, 100, Sum.inl g6))] → va_S A s.heap H locs → ∀ ls : Array Slot, lv_has ls 7 [(0, Value.ref h0), (1, Value.int b), (2, Value.int an), (3, Value.int (nI j))] → W p l e ({ frames := 1, cells := 0, slots := 0, locals := 22 }) s m args below meth c H locs 0 0 Q (F0 m 4 ls []) := by
  intro n
  induction n with
  | zero => intro g6 an j b1 h3 h4 hmk han hn; exact absurd hn (Nat.not_lt_zero _)
  | succ n ih =>
    intro g6 an j b1 h3 h4 hmk han hn H locs hP hD hS ls hl
    obtain ⟨hx, hb, hml, hown, hts⟩ := id F
    refine lv_iload_n hx hb dX6_markBreaking_4 rfl (lv_at hl 3 rfl) ?_
    refine lv_aload_n hx hb dX6_markBreaking_5 rfl (lv_at hl 0 rfl) ?_
    refine va_get (D := D) (ci := 5) (v := Value.int (nI h)) (C := RX6) (T := TX6) (N := 8) hx hb hts inG_X6 hown hK hP 0 rfl rfl 1 (by decide) (hts _ kw_1_145) (fun _ h9 => h9) rfl dX6_markBreaking_6 ?_
    refine lv_icmp_ge (tgt := 126) hx hb dX6_markBreaking_9 (by decide) (fun c_1 => ?_) (fun c_1 => ?_)
    · skip
      have c_1n : h ≤ j := (nI_leI (by omega) (by omega)).mp c_1
      have c_1 := Int32.not_lt.mpr c_1
      exact kx_126 g6 an (fun c q1 q2 _ => hmk c q1 q2 (by omega)) (han.imp (fun q => ⟨q.1, by obtain ⟨c9, q1, q2, q3, q4⟩ := q.2; exact ⟨c9, q1, q2, trivial, q4⟩⟩) (fun q => ⟨q.1, fun c q1 q2 q3 => q.2 c q1 q2 (by omega)⟩)) H locs (hP.sub [0, 1, 2, 3, 4, 5] rfl) (hD.sub [0, 1, 2, 3, 4, 5] (by decide) rfl) hS ls (lv_sub hl [2] rfl)
    · skip
      have c_1n : j < h := nb_le (by omega) (by omega) c_1
      have c_1 := Int32.not_le.mp c_1
      refine lv_iconst (v := 0) hx hb dX6_markBreaking_12 (by decide) ?_
      refine lv_istore (lv' := [(4, Value.int 0), (0, Value.ref h0), (1, Value.int b), (2, Value.int an), (3, Value.int (nI j))]) hx hb dX6_markBreaking_13 hl (by decide) rfl (fun ls hl => ?_)
      refine lp_s_mark_in F hA h0 w h q1 q2 q3 q4 q5 q6 cy1 f1 cy2 f2 cy3 f3 cy5 f5 cy6 b j (hK.sub [0, 1, 2, 3, 4] rfl) (fun g6_2 an_3 h_4 h_5 H locs hP hD hS ls hl => ?_) _ g6 an 0 (by omega) (by omega) (by omega) (by omega) (fun c q1 q2 q3 => hmk c q1 q2 (by omega)) (han.imp (fun q => ⟨q.1, by obtain ⟨c9, q1, q2, q3, q4⟩ := q.2; exact ⟨c9, q1, q2, Or.inl q3, q4⟩⟩) (fun q => ⟨q.1, fun c q1 q2 q3 => q.2 c q1 q2 (by omega)⟩)) (Nat.lt_succ_self _) _ _ (hP.sub [0, 1, 2, 3, 4, 5] rfl) (hD.sub [0, 1, 2, 3, 4, 5] (by decide) rfl) hS ls (lv_sub hl [1, 2, 3, 4, 0] rfl)
      have h_4 : ∀ c, c % 10 < w → c / 10 < h → c / 10 < j + 1 → g6_2 c = mkI f1 f2 f3 f5 b c := h_4
      have h_5 : (an_3 = 1 ∧ ∃ c, c % 10 < w ∧ c / 10 < h ∧ c / 10 < j + 1 ∧ ¬ g6_2 c = 0) ∨ (an_3 = 0 ∧ ∀ c, c % 10 < w → c / 10 < h → c / 10 < j + 1 → g6_2 c = 0) := h_5
      refine lv_iinc (v := nI (j + 1)) (lv' := [(3, Value.int (nI (j + 1))), (0, Value.ref h0), (1, Value.int b), (2, Value.int an_3)]) hx hb dX6_markBreaking_120 hl (k := 3) rfl (nI_add j 1) (by decide) rfl (fun ls hl => ?_)
      refine lv_goto (tgt := 4) hx hb dX6_markBreaking_123 (by decide) ?_
      exact ih g6_2 an_3 (j + 1) (by omega) (by omega) (by omega) h_4 h_5 (by clear h_4 h_5 han hmk; omega) H locs (hP.sub [0, 1, 2, 3, 4, 5] rfl) (hD.sub [0, 1, 2, 3, 4, 5] (by decide) rfl) hS ls (lv_sub hl [1, 2, 3, 0] rfl)
set_option maxHeartbeats 4000000 in
set_option maxRecDepth 100000 in
theorem s_markBreaking (l : Launch) (D : va_G) (h0 : Nat) (w : Nat) (h : Nat) (q1 : Nat) (q2 : Nat) (q3 : Nat) (q4 : Nat) (q5 : Nat) (q6 : Nat) (cy1 : ClassId) (f1 : Nat → Int32) (cy2 : ClassId) (f2 : Nat → Int32) (cy3 : ClassId) (f3 : Nat → Int32) (cy5 : ClassId) (f5 : Nat → Int32) (cy6 : ClassId) (f6 : Nat → Int32) (b : Int32) (h3 : w ≤ 10) (h4 : h ≤ 10) : cI l yX6_markBreaking (.code yX6_markBreaking cX6_markBreaking 7 (some .boolean)) ({ frames := 1, cells := 0, slots := 0, locals := 22 }) D [(cy1, .int), (cy2, .int), (cy3, .int), (cy5, .boolean), (cy6, .boolean)] [(h0, Sum.inr (5, [Value.int (nI w), Value.int (nI h), Value.ref q1, Value.ref q2, Value.ref q3, Value.ref q4, Value.ref q5, Value.ref q6])), (q1, Sum.inl (cy1, 100, Sum.inl f1)), (q2, Sum.inl (cy2, 100, Sum.inl f2)), (q3, Sum.inl (cy3, 100, Sum.inl f3)), (q5, Sum.inl (cy5, 100, Sum.inl f5)), (q6, Sum.inl (cy6, 100, Sum.inl f6))] xT [Value.ref h0, Value.int b] (S := (Nat → Int32)) (fun r u => match u with | g6 => (∀ c, c % 10 < w → c / 10 < h → g6 c = mkI f1 f2 f3 f5 b c) ∧ ((r = 1 ∧ ∃ c, c % 10 < w ∧ c / 10 < h ∧ ¬ g6 c = 0) ∨ (r = 0 ∧ ∀ c, c % 10 < w → c / 10 < h → g6 c = 0))) (fun u => match u with | g6 => []) (fun u => match u with | g6 => [(h0, Sum.inr (5, [Value.int (nI w), Value.int (nI h), Value.ref q1, Value.ref q2, Value.ref q3, Value.ref q4, Value.ref q5, Value.ref q6])), (q1, Sum.inl (cy1, 100, Sum.inl f1)), (q2, Sum.inl (cy2, 100, Sum.inl f2)), (q3, Sum.inl (cy3, 100, Sum.inl f3)), (q5, Sum.inl (cy5, 100, Sum.inl f5)), (q6, Sum.inl (cy6, 100, Sum.inl g6))]) := by
  intro sz
  refine Met.ofW (cc := cX6_markBreaking) (maxL := 7) (ret := (some .boolean)) (by decide) rfl ?_
  intro p e s m args below meth c s₁ B hml hv
  obtain ⟨rfl, hsz, hP, hK, hD0, hX⟩ := hv
  have hx := B.exec
  have hb := B.bytes
  have hr := B.returns
  have hts0 := atoms_spec (ws := .code yX6_markBreaking cX6_markBreaking 7 (some .boolean) :: gw) B.pre
  have hts := fun (w : Cond) (h : w ∈ gw) => hts0 w (List.mem_cons_of_mem _ h)
  have hown : s.vm.findClass RX6 = some m.cls := findClass_of_methodNamed B.named
  have hlocks := B.notSynchronized
  have F : mFix p s m _ c cX6_markBreaking 7 RX6 := ⟨hx, hb, hml, hown, hts⟩
  subst hsz
  have hD := hD0.self (sz := s.heap.size)
  generalize hAe : va_A [(h0, Sum.inr (5, [Value.int (nI w), Value.int (nI h), Value.ref q1, Value.ref q2, Value.ref q3, Value.ref q4, Value.ref q5, Value.ref q6])), (q1, Sum.inl (cy1, 100, Sum.inl f1)), (q2, Sum.inl (cy2, 100, Sum.inl f2)), (q3, Sum.inl (cy3, 100, Sum.inl f3)), (q5, Sum.inl (cy5, 100, Sum.inl f5)), (q6, Sum.inl (cy6, 100, Sum.inl f6))] s.heap.size = A at hD hX ⊢
  have hA : ∀ q : Nat, s.heap.size ≤ q → A q := fun q h => by rw [← hAe]; exact Or.inr h
  have hS : va_S A s.heap s.heap [] := va_S.rf
  have hl := lv_entry ([Value.ref h0, Value.int b]) (n := 7) (Nat.le_of_ble_eq_true rfl)
  rw [lg_entry_eq]
  generalize (lg_sl ([Value.ref h0, Value.int b]) ++ List.replicate (7 - (lg_sl ([Value.ref h0, Value.int b])).length) Slot.unset).toArray = ls at hl ⊢
  have hl : lv_has ls 7 [(0, Value.ref h0), (1, Value.int b)] := hl
  have hP : va_P D vwCl [(h0, Sum.inr (5, [Value.int (nI w), Value.int (nI h), Value.ref q1, Value.ref q2, Value.ref q3, Value.ref q4, Value.ref q5, Value.ref q6])), (q1, Sum.inl (cy1, 100, Sum.inl f1)), (q2, Sum.inl (cy2, 100, Sum.inl f2)), (q3, Sum.inl (cy3, 100, Sum.inl f3)), (q5, Sum.inl (cy5, 100, Sum.inl f5)), (q6, Sum.inl (cy6, 100, Sum.inl f6))] s.heap := hP
  refine lv_iconst (v := 0) hx hb dX6_markBreaking_0 (by decide) ?_
  refine lv_istore_n (lv' := [(2, Value.int 0), (0, Value.ref h0), (1, Value.int b)]) hx hb dX6_markBreaking_1 rfl hl (by decide) rfl (fun ls hl => ?_)
  refine lv_iconst (v := 0) hx hb dX6_markBreaking_2 (by decide) ?_
  refine lv_istore_n (lv' := [(3, Value.int 0), (2, Value.int 0), (0, Value.ref h0), (1, Value.int b)]) hx hb dX6_markBreaking_3 rfl hl (by decide) rfl (fun ls hl => ?_)
  refine lp_s_mark_out F hA h0 w h q1 q2 q3 q4 q5 q6 cy1 f1 cy2 f2 cy3 f3 cy5 f5 cy6 b (hK.sub [0, 1, 2, 3, 4] rfl) (fun g6_1 an_2 h_3 h_4 H locs hP hD hS ls hl => ?_) _ f6 0 0 (by omega) (by omega) (by omega) (fun c _ _ q => absurd q (Nat.not_lt_zero _)) (Or.inr ⟨rfl, fun c _ _ q => absurd q (Nat.not_lt_zero _)⟩) (Nat.lt_succ_self _) _ _ (hP.sub [0, 1, 2, 3, 4, 5] rfl) (hD.sub [0, 1, 2, 3, 4, 5] (by decide) rfl) hS ls (lv_sub hl [2, 3, 1, 0] rfl)
  have h_3 : ∀ c, c % 10 < w → c / 10 < h → True → g6_1 c = mkI f1 f2 f3 f5 b c := h_3
  have h_4 : (an_2 = 1 ∧ ∃ c, c % 10 < w ∧ c / 10 < h ∧ True ∧ ¬ g6_1 c = 0) ∨ (an_2 = 0 ∧ ∀ c, c % 10 < w → c / 10 < h → True → g6_1 c = 0) := h_4
  refine lv_iload_n hx hb dX6_markBreaking_126 rfl (lv_at hl 0 rfl) ?_
  have hP9 := hP.sub (ws' := [(h0, Sum.inr (5, [Value.int (nI w), Value.int (nI h), Value.ref q1, Value.ref q2, Value.ref q3, Value.ref q4, Value.ref q5, Value.ref q6])), (q1, Sum.inl (cy1, 100, Sum.inl f1)), (q2, Sum.inl (cy2, 100, Sum.inl f2)), (q3, Sum.inl (cy3, 100, Sum.inl f3)), (q5, Sum.inl (cy5, 100, Sum.inl f5)), (q6, Sum.inl (cy6, 100, Sum.inl g6_1))]) [0, 1, 2, 3, 4, 5] rfl
  have hD9 := hD.sub (ws' := [(h0, Sum.inr (5, [Value.int (nI w), Value.int (nI h), Value.ref q1, Value.ref q2, Value.ref q3, Value.ref q4, Value.ref q5, Value.ref q6])), (q1, Sum.inl (cy1, 100, Sum.inl f1)), (q2, Sum.inl (cy2, 100, Sum.inl f2)), (q3, Sum.inl (cy3, 100, Sum.inl f3)), (q5, Sum.inl (cy5, 100, Sum.inl f5)), (q6, Sum.inl (cy6, 100, Sum.inl g6_1))]) [0, 1, 2, 3, 4, 5] (by decide) rfl
  have hK9 := hK.sub (tys' := []) [] rfl
  refine W.widen (k := 0) (n := 0) (by decide) (by decide) ?_
  exact W.zret (v := an_2) hx hb hr (by rcases h_4 with ⟨rfl, _⟩ | ⟨rfl, _⟩ <;> rfl) (fun t ht hW => ⟨⟨an_2, g6_1, rfl, ⟨fun c q1 q2 => h_3 c q1 q2 trivial, h_4.imp (fun q => ⟨q.1, by obtain ⟨c9, q1, q2, q3, q4⟩ := q.2; exact ⟨c9, q1, q2, q4⟩⟩) (fun q => ⟨q.1, fun c q1 q2 => q.2 c q1 q2 trivial⟩)⟩, by rw [ht]; exact hP9, va_K.moved hW.alike hK9, hD9⟩, hS.F ht⟩) hS.2.2 dX6_markBreaking_127
set_option maxHeartbeats 4000000 in
set_option maxRecDepth 100000 in
theorem s_crackIf (l : Launch) (D : va_G) (h0 : Nat) (w : Nat) (h : Nat) (q1 : Nat) (q2 : Nat) (q3 : Nat) (q4 : Nat) (q5 : Nat) (q6 : Nat) (cy5 : ClassId) (f5 : Nat → Int32) (cy6 : ClassId) (f6 : Nat → Int32) (i : Nat) (j : Nat) (h3 : w ≤ 10) (h4 : h ≤ 10) (h1 : i < w) (h2 : j < h) : cI l yX6_crackIfMarked (.code yX6_crackIfMarked cX6_crackIfMarked 3 (some .boolean)) ({ frames := 1, cells := 0, slots := 0, locals := 22 }) D [(cy5, .boolean), (cy6, .boolean)] [(h0, Sum.inr (5, [Value.int (nI w), Value.int (nI h), Value.ref q1, Value.ref q2, Value.ref q3, Value.ref q4, Value.ref q5, Value.ref q6])), (q5, Sum.inl (cy5, 100, Sum.inl f5)), (q6, Sum.inl (cy6, 100, Sum.inl f6))] xT [Value.ref h0, Value.int (nI i), Value.int (nI j)] (S := (Nat → Int32)) (fun r u => match u with | g5 => (r = 1 ∧ ¬ f6 (j * 10 + i) = 0 ∧ g5 = upd f5 (j * 10 + i) 1) ∨ (r = 0 ∧ f6 (j * 10 + i) = 0 ∧ g5 = f5)) (fun u => match u with | g5 => []) (fun u => match u with | g5 => [(h0, Sum.inr (5, [Value.int (nI w), Value.int (nI h), Value.ref q1, Value.ref q2, Value.ref q3, Value.ref q4, Value.ref q5, Value.ref q6])), (q5, Sum.inl (cy5, 100, Sum.inl g5)), (q6, Sum.inl (cy6, 100, Sum.inl f6))]) := by
  intro sz
  refine Met.ofW (cc := cX6_crackIfMarked) (maxL := 3) (ret := (some .boolean)) (by decide) rfl ?_
  intro p e s m args below meth c s₁ B hml hv
  obtain ⟨rfl, hsz, hP, hK, hD0, hX⟩ := hv
  have hx := B.exec
  have hb := B.bytes
  have hr := B.returns
  have hts0 := atoms_spec (ws := .code yX6_crackIfMarked cX6_crackIfMarked 3 (some .boolean) :: gw) B.pre
  have hts := fun (w : Cond) (h : w ∈ gw) => hts0 w (List.mem_cons_of_mem _ h)
  have hown : s.vm.findClass RX6 = some m.cls := findClass_of_methodNamed B.named
  have hlocks := B.notSynchronized
  have F : mFix p s m _ c cX6_crackIfMarked 3 RX6 := ⟨hx, hb, hml, hown, hts⟩
  subst hsz
  have hD := hD0.self (sz := s.heap.size)
  generalize hAe : va_A [(h0, Sum.inr (5, [Value.int (nI w), Value.int (nI h), Value.ref q1, Value.ref q2, Value.ref q3, Value.ref q4, Value.ref q5, Value.ref q6])), (q5, Sum.inl (cy5, 100, Sum.inl f5)), (q6, Sum.inl (cy6, 100, Sum.inl f6))] s.heap.size = A at hD hX ⊢
  have hA : ∀ q : Nat, s.heap.size ≤ q → A q := fun q h => by rw [← hAe]; exact Or.inr h
  have hS : va_S A s.heap s.heap [] := va_S.rf
  have hl := lv_entry ([Value.ref h0, Value.int (nI i), Value.int (nI j)]) (n := 3) (Nat.le_of_ble_eq_true rfl)
  rw [lg_entry_eq]
  generalize (lg_sl ([Value.ref h0, Value.int (nI i), Value.int (nI j)]) ++ List.replicate (3 - (lg_sl ([Value.ref h0, Value.int (nI i), Value.int (nI j)])).length) Slot.unset).toArray = ls at hl ⊢
  have hl : lv_has ls 3 [(0, Value.ref h0), (1, Value.int (nI i)), (2, Value.int (nI j))] := hl
  have hP : va_P D vwCl [(h0, Sum.inr (5, [Value.int (nI w), Value.int (nI h), Value.ref q1, Value.ref q2, Value.ref q3, Value.ref q4, Value.ref q5, Value.ref q6])), (q5, Sum.inl (cy5, 100, Sum.inl f5)), (q6, Sum.inl (cy6, 100, Sum.inl f6))] s.heap := hP
  refine lv_aload_n hx hb dX6_crackIfMarked_0 rfl (lv_at hl 0 rfl) ?_
  refine lv_iload_n hx hb dX6_crackIfMarked_1 rfl (lv_at hl 1 rfl) ?_
  refine lv_iload_n hx hb dX6_crackIfMarked_2 rfl (lv_at hl 2 rfl) ?_
  refine mc_Vi (rest := []) (wr := [(q5, Sum.inl (cy5, 100, Sum.inl f5)), (q6, Sum.inl (cy6, 100, Sum.inl f6))]) F hK hP hD hS hA (c_has_in l D h0 q1 q2 q3 q4 q5 q6 w h i j (by omega) (by omega) (by omega) (by omega)) ⟨gk_X6_42.1, gk_X6_42.2, Nat.le_of_ble_eq_true rfl, Nat.le_of_ble_eq_true rfl⟩ [0] [1, 2] [] ⟨rfl, rfl, rfl, rfl, by decide⟩ rfl xT_move (fun _ _ _ => trivial) 0 rfl rfl rfl hl.1 rfl (Nat.le_of_ble_eq_true rfl) dX6_crackIfMarked_3 ⟨Nat.le_of_ble_eq_true rfl, Nat.le_of_ble_eq_true rfl⟩ (fun r_1 _ H locs hw hK1 hP hD hS => ?_)
  have hP : va_P D vwCl [(q5, Sum.inl (cy5, 100, Sum.inl f5)), (q6, Sum.inl (cy6, 100, Sum.inl f6)), (h0, Sum.inr (5, [Value.int (nI w), Value.int (nI h), Value.ref q1, Value.ref q2, Value.ref q3, Value.ref q4, Value.ref q5, Value.ref q6]))] H := hP
  have hD : va_D A [(q5, Sum.inl (cy5, 100, Sum.inl f5)), (q6, Sum.inl (cy6, 100, Sum.inl f6)), (h0, Sum.inr (5, [Value.int (nI w), Value.int (nI h), Value.ref q1, Value.ref q2, Value.ref q3, Value.ref q4, Value.ref q5, Value.ref q6]))] := hD
  have hw_2 : r_1 = 1 := hw
  obtain rfl : r_1 = 1 := hw_2
  refine lv_if_eq (tgt := 23) hx hb dX6_crackIfMarked_6 (by decide) (fun c_3 => absurd c_3 (by decide)) (fun c_3 => ?_)
  refine lv_aload_n hx hb dX6_crackIfMarked_9 rfl (lv_at hl 0 rfl) ?_
  refine va_get (D := D) (ci := 5) (v := Value.ref q6) (C := RX6) (T := TX6) (N := 8) hx hb hts inG_X6 hown hK hP 2 rfl rfl 7 (by decide) (hts _ kw_1_159) (fun _ h9 => h9) rfl dX6_crackIfMarked_10 ?_
  refine lv_aload_n hx hb dX6_crackIfMarked_13 rfl (lv_at hl 0 rfl) ?_
  refine lv_iload_n hx hb dX6_crackIfMarked_14 rfl (lv_at hl 1 rfl) ?_
  refine lv_iload_n hx hb dX6_crackIfMarked_15 rfl (lv_at hl 2 rfl) ?_
  refine mc_Vi (rest := [Value.ref q6]) (wr := [(q5, Sum.inl (cy5, 100, Sum.inl f5)), (q6, Sum.inl (cy6, 100, Sum.inl f6))]) F hK hP hD hS hA (c_spotOf l D h0 q1 q2 q3 q4 q5 q6 w h i j ) ⟨gk_X6_46.1, gk_X6_46.2, Nat.le_of_ble_eq_true rfl, Nat.le_of_ble_eq_true rfl⟩ [2] [0, 1] [] ⟨rfl, rfl, rfl, rfl, by decide⟩ rfl xT_move (fun _ _ _ => trivial) 2 rfl rfl rfl hl.1 rfl (Nat.le_of_ble_eq_true rfl) dX6_crackIfMarked_16 ⟨Nat.le_of_ble_eq_true rfl, Nat.le_of_ble_eq_true rfl⟩ (fun r_4 _ H locs hw hK1 hP hD hS => ?_)
  have hP : va_P D vwCl [(q5, Sum.inl (cy5, 100, Sum.inl f5)), (q6, Sum.inl (cy6, 100, Sum.inl f6)), (h0, Sum.inr (5, [Value.int (nI w), Value.int (nI h), Value.ref q1, Value.ref q2, Value.ref q3, Value.ref q4, Value.ref q5, Value.ref q6]))] H := hP
  have hD : va_D A [(q5, Sum.inl (cy5, 100, Sum.inl f5)), (q6, Sum.inl (cy6, 100, Sum.inl f6)), (h0, Sum.inr (5, [Value.int (nI w), Value.int (nI h), Value.ref q1, Value.ref q2, Value.ref q3, Value.ref q4, Value.ref q5, Value.ref q6]))] := hD
  have hw_5 : r_4 = nI (j * 10 + i) := hw
  obtain rfl : r_4 = nI (j * 10 + i) := hw_5
  refine m_zald hx hb hK hP 1 1 rfl rfl (j * 10 + i) rfl (by omega) (by decide) dX6_crackIfMarked_19 ?_
  refine lv_topi (fun v_6 ev_6 => ?_)
  refine lv_if_ne (tgt := 25) hx hb dX6_crackIfMarked_20 (by decide) (fun c_7 => ?_) (fun c_7 => ?_)
  · skip
    refine lv_aload_n hx hb dX6_crackIfMarked_25 rfl (lv_at hl 0 rfl) ?_
    refine va_get (D := D) (ci := 5) (v := Value.ref q5) (C := RX6) (T := TX6) (N := 8) hx hb hts inG_X6 hown hK hP 2 rfl rfl 6 (by decide) (hts _ kw_1_157) (fun _ h9 => h9) rfl dX6_crackIfMarked_26 ?_
    refine lv_aload_n hx hb dX6_crackIfMarked_29 rfl (lv_at hl 0 rfl) ?_
    refine lv_iload_n hx hb dX6_crackIfMarked_30 rfl (lv_at hl 1 rfl) ?_
    refine lv_iload_n hx hb dX6_crackIfMarked_31 rfl (lv_at hl 2 rfl) ?_
    refine mc_Vi (rest := [Value.ref q5]) (wr := [(q5, Sum.inl (cy5, 100, Sum.inl f5)), (q6, Sum.inl (cy6, 100, Sum.inl f6))]) F hK hP hD hS hA (c_spotOf l D h0 q1 q2 q3 q4 q5 q6 w h i j ) ⟨gk_X6_46.1, gk_X6_46.2, Nat.le_of_ble_eq_true rfl, Nat.le_of_ble_eq_true rfl⟩ [2] [0, 1] [] ⟨rfl, rfl, rfl, rfl, by decide⟩ rfl xT_move (fun _ _ _ => trivial) 2 rfl rfl rfl hl.1 rfl (Nat.le_of_ble_eq_true rfl) dX6_crackIfMarked_32 ⟨Nat.le_of_ble_eq_true rfl, Nat.le_of_ble_eq_true rfl⟩ (fun r_8 _ H locs hw hK1 hP hD hS => ?_)
    have hP : va_P D vwCl [(q5, Sum.inl (cy5, 100, Sum.inl f5)), (q6, Sum.inl (cy6, 100, Sum.inl f6)), (h0, Sum.inr (5, [Value.int (nI w), Value.int (nI h), Value.ref q1, Value.ref q2, Value.ref q3, Value.ref q4, Value.ref q5, Value.ref q6]))] H := hP
    have hD : va_D A [(q5, Sum.inl (cy5, 100, Sum.inl f5)), (q6, Sum.inl (cy6, 100, Sum.inl f6)), (h0, Sum.inr (5, [Value.int (nI w), Value.int (nI h), Value.ref q1, Value.ref q2, Value.ref q3, Value.ref q4, Value.ref q5, Value.ref q6]))] := hD
    have hw_9 : r_8 = nI (j * 10 + i) := hw
    obtain rfl : r_8 = nI (j * 10 + i) := hw_9
    refine lv_iconst (v := 1) hx hb dX6_crackIfMarked_35 (by decide) ?_
    refine m_zast hx hb hK hP hD hS 0 0 rfl rfl (j * 10 + i) rfl (by omega) (by decide) dX6_crackIfMarked_36 (fun g_10 H locs eg_10 hP hD hS => ?_)
    have hP : va_P D vwCl [(q5, Sum.inl (cy5, 100, Sum.inl g_10)), (q6, Sum.inl (cy6, 100, Sum.inl f6)), (h0, Sum.inr (5, [Value.int (nI w), Value.int (nI h), Value.ref q1, Value.ref q2, Value.ref q3, Value.ref q4, Value.ref q5, Value.ref q6]))] H := hP
    have hD : va_D A [(q5, Sum.inl (cy5, 100, Sum.inl g_10)), (q6, Sum.inl (cy6, 100, Sum.inl f6)), (h0, Sum.inr (5, [Value.int (nI w), Value.int (nI h), Value.ref q1, Value.ref q2, Value.ref q3, Value.ref q4, Value.ref q5, Value.ref q6]))] := hD
    refine lv_iconst (v := 1) hx hb dX6_crackIfMarked_37 (by decide) ?_
    have hP9 := hP.sub (ws' := [(h0, Sum.inr (5, [Value.int (nI w), Value.int (nI h), Value.ref q1, Value.ref q2, Value.ref q3, Value.ref q4, Value.ref q5, Value.ref q6])), (q5, Sum.inl (cy5, 100, Sum.inl g_10)), (q6, Sum.inl (cy6, 100, Sum.inl f6))]) [2, 0, 1] rfl
    have hD9 := hD.sub (ws' := [(h0, Sum.inr (5, [Value.int (nI w), Value.int (nI h), Value.ref q1, Value.ref q2, Value.ref q3, Value.ref q4, Value.ref q5, Value.ref q6])), (q5, Sum.inl (cy5, 100, Sum.inl g_10)), (q6, Sum.inl (cy6, 100, Sum.inl f6))]) [2, 0, 1] (by decide) rfl
    have hK9 := hK.sub (tys' := []) [] rfl
    refine W.widen (k := 0) (n := 0) (by decide) (by decide) ?_
    exact W.zret (v := 1) hx hb hr rfl (fun t ht hW => ⟨⟨1, g_10, rfl, Or.inl ⟨rfl, fun q => c_7 (by rw [ev_6]; exact q), eg_10⟩, by rw [ht]; exact hP9, va_K.moved hW.alike hK9, hD9⟩, hS.F ht⟩) hS.2.2 dX6_crackIfMarked_38
  · skip
    refine lv_iconst (v := 0) hx hb dX6_crackIfMarked_23 (by decide) ?_
    have hP9 := hP.sub (ws' := [(h0, Sum.inr (5, [Value.int (nI w), Value.int (nI h), Value.ref q1, Value.ref q2, Value.ref q3, Value.ref q4, Value.ref q5, Value.ref q6])), (q5, Sum.inl (cy5, 100, Sum.inl f5)), (q6, Sum.inl (cy6, 100, Sum.inl f6))]) [2, 0, 1] rfl
    have hD9 := hD.sub (ws' := [(h0, Sum.inr (5, [Value.int (nI w), Value.int (nI h), Value.ref q1, Value.ref q2, Value.ref q3, Value.ref q4, Value.ref q5, Value.ref q6])), (q5, Sum.inl (cy5, 100, Sum.inl f5)), (q6, Sum.inl (cy6, 100, Sum.inl f6))]) [2, 0, 1] (by decide) rfl
    have hK9 := hK.sub (tys' := []) [] rfl
    refine W.widen (k := 0) (n := 0) (by decide) (by decide) ?_
    exact W.zret (v := 0) hx hb hr rfl (fun t ht hW => ⟨⟨0, f5, rfl, Or.inr ⟨rfl, by rw [← ev_6]; exact c_7, rfl⟩, by rw [ht]; exact hP9, va_K.moved hW.alike hK9, hD9⟩, hS.F ht⟩) hS.2.2 dX6_crackIfMarked_24
