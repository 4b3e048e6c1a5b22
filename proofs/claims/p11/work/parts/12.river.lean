theorem dX6_renew_12 : decode cX6_renew 12 = .ok (.iload_n 3, 1) := by decide +kernel
theorem dX6_renew_13 : decode cX6_renew 13 = .ok (.bipush 100, 2) := by decide +kernel
theorem dX6_renew_15 : decode cX6_renew 15 = .ok (.if_icmp .ge 44, 3) := by decide +kernel
theorem dX6_renew_18 : decode cX6_renew 18 = .ok (.aload_n 0, 1) := by decide +kernel
theorem inG_X6 : ∀ w ∈ u_ws RX6 TX6 8, w ∈ gw := fun w h => gw_in ((by decide +kernel : ∀ w ∈ u_ws RX6 TX6 8, w ∈ lw_tbl) w h) ((by decide +kernel : ∀ w ∈ u_ws RX6 TX6 8, goodWord w = true) w h)
theorem kw_1_148 : Cond.fieldLink RX6 9 "IceFair$River" "low" "[I" ∈ gw := gw_t1 (List.mem_of_getElem? (i := 148) (by decide +kernel)) (by decide +kernel)
theorem dX6_renew_19 : decode cX6_renew 19 = .ok (.getfield 9, 3) := by decide +kernel
theorem dX6_renew_22 : decode cX6_renew 22 = .ok (.iload_n 3, 1) := by decide +kernel
theorem dX6_renew_23 : decode cX6_renew 23 = .ok (.iconst 0, 1) := by decide +kernel
theorem dX6_renew_24 : decode cX6_renew 24 = .ok (.iastore, 1) := by decide +kernel
theorem dX6_renew_25 : decode cX6_renew 25 = .ok (.aload_n 0, 1) := by decide +kernel
theorem kw_1_150 : Cond.fieldLink RX6 15 "IceFair$River" "high" "[I" ∈ gw := gw_t1 (List.mem_of_getElem? (i := 150) (by decide +kernel)) (by decide +kernel)
theorem dX6_renew_26 : decode cX6_renew 26 = .ok (.getfield 15, 3) := by decide +kernel
theorem dX6_renew_29 : decode cX6_renew 29 = .ok (.iload_n 3, 1) := by decide +kernel
theorem dX6_renew_30 : decode cX6_renew 30 = .ok (.iconst 0, 1) := by decide +kernel
theorem dX6_renew_31 : decode cX6_renew 31 = .ok (.iastore, 1) := by decide +kernel
theorem dX6_renew_32 : decode cX6_renew 32 = .ok (.aload_n 0, 1) := by decide +kernel
theorem kw_1_152 : Cond.fieldLink RX6 18 "IceFair$River" "strain" "[I" ∈ gw := gw_t1 (List.mem_of_getElem? (i := 152) (by decide +kernel)) (by decide +kernel)
theorem dX6_renew_33 : decode cX6_renew 33 = .ok (.getfield 18, 3) := by decide +kernel
theorem dX6_renew_36 : decode cX6_renew 36 = .ok (.iload_n 3, 1) := by decide +kernel
theorem dX6_renew_37 : decode cX6_renew 37 = .ok (.iconst 0, 1) := by decide +kernel
theorem dX6_renew_38 : decode cX6_renew 38 = .ok (.iastore, 1) := by decide +kernel
theorem dX6_renew_39 : decode cX6_renew 39 = .ok (.aload_n 0, 1) := by decide +kernel
theorem kw_1_154 : Cond.fieldLink RX6 21 "IceFair$River" "guest" "[I" ∈ gw := gw_t1 (List.mem_of_getElem? (i := 154) (by decide +kernel)) (by decide +kernel)
theorem dX6_renew_40 : decode cX6_renew 40 = .ok (.getfield 21, 3) := by decide +kernel
theorem dX6_renew_43 : decode cX6_renew 43 = .ok (.iload_n 3, 1) := by decide +kernel
theorem dX6_renew_44 : decode cX6_renew 44 = .ok (.iconst (-1), 1) := by decide +kernel
theorem dX6_renew_45 : decode cX6_renew 45 = .ok (.iastore, 1) := by decide +kernel
theorem dX6_renew_46 : decode cX6_renew 46 = .ok (.aload_n 0, 1) := by decide +kernel
theorem kw_1_157 : Cond.fieldLink RX6 24 "IceFair$River" "cracked" "[Z" ∈ gw := gw_t1 (List.mem_of_getElem? (i := 157) (by decide +kernel)) (by decide +kernel)
theorem dX6_renew_47 : decode cX6_renew 47 = .ok (.getfield 24, 3) := by decide +kernel
theorem dX6_renew_50 : decode cX6_renew 50 = .ok (.iload_n 3, 1) := by decide +kernel
theorem dX6_renew_51 : decode cX6_renew 51 = .ok (.iconst 0, 1) := by decide +kernel
theorem dX6_renew_52 : decode cX6_renew 52 = .ok (.bastore, 1) := by decide +kernel
theorem dX6_renew_53 : decode cX6_renew 53 = .ok (.iinc 3 1, 3) := by decide +kernel
theorem dX6_renew_56 : decode cX6_renew 56 = .ok (.goto (-44), 3) := by decide +kernel
set_option maxHeartbeats 4000000 in
set_option maxRecDepth 100000 in
theorem lp_River_renew {p : Program} {l : Launch} {e : Env} {s : State} {m : MethodId} {args : Array Value} {below : List Frame} {meth : Method} {c : Code} {Q : State → Prop} {A : Nat → Prop} {D : va_G} (F : mFix p s m args c cX6_renew 4 RX6) (hA : ∀ q, s.heap.size ≤ q → A q) (h0 : Nat) (q1 : Nat) (q2 : Nat) (q3 : Nat) (q4 : Nat) (q5 : Nat) (q6 : Nat) (cy1 : ClassId) (cy2 : ClassId) (cy3 : ClassId) (cy4 : ClassId) (cy5 : ClassId) (cy6 : ClassId) (f6 : Nat → Int32) (w1 : Int32) (h1 : Int32) (hK : va_K D vwCl [(cy1, .int), (cy2, .int), (cy3, .int), (cy4, .int), (cy5, .boolean), (cy6, .boolean)] s)
    (kx_59 : ∀ (f1 : Nat → Int32) (f2 : Nat → Int32) (f3 : Nat → Int32) (f4 : Nat → Int32) (f5 : Nat → Int32), (∀ j, j < 100 → f1 j = 0) → (∀ j, j < 100 → f2 j = 0) → (∀ j, j < 100 → f3 j = 0) → (∀ j, j < 100 → f4 j = (-1)) → (∀ j, j < 100 → f5 j = 0) → ∀ (H : Heap) (locs : List Loc), va_P D vwCl [(h0, Sum.inr (5, [Value.int w1, Value.int h1, Value.ref q1, Value.ref q2, Value.ref q3, Value.ref q4, Value.ref q5, Value.ref q6])), (q1, Sum.inl (cy1, 100, Sum.inl f1)), (q2, Sum.inl (cy2, 100, Sum.inl f2)), (q3, Sum.inl (cy3, 100, Sum.inl f3)), (q4, Sum.inl (cy4, 100, Sum.inl f4)), (q5, Sum.inl (cy5, 100, Sum.inl f5)), (q6, Sum.inl (cy6, 100, Sum.inl f6))] H → va_D A [(h0, Sum.inr (5, [Value.int w1, Value.int h1, Value.ref q1, Value.ref q2, Value.ref q3, Value.ref q4, Value.ref q5, Value.ref q6])), (q1, Sum.inl (cy1, 100, Sum.inl f1)), (q2, Sum.inl (cy2, 100, Sum.inl f2)), (q3, Sum.inl (cy3, 100, Sum.inl f3)), (q4, Sum.inl (cy4, 100, Sum.inl f4)), (q5, Sum.inl (cy5, 100, Sum.inl f5)), (q6, Sum.inl (cy6, 100, Sum.inl f6))] → va_S A s.heap H locs → ∀ ls : Array Slot, lv_has ls 4 [] → W p l e ({ frames := 0, cells := 0, slots := 0, locals := 0 }) s m args below meth c H locs 0 0 Q (F0 m 59 ls [])) :
    ∀ n : Nat, ∀ (f1 : Nat → Int32) (f2 : Nat → Int32) (f3 : Nat → Int32) (f4 : Nat → Int32) (f5 : Nat → Int32) (i : Nat), (i ≤ 100) → (∀ j, j < i → f1 j = 0) → (∀ j, j < i → f2 j = 0) → (∀ j, j < i → f3 j = 0) → (∀ j, j < i → f4 j = (-1)) → (∀ j, j < i → f5 j = 0) → (100 - i) < n → ∀ (H : Heap) (locs : List Loc), va_P D vwCl [(h0, Sum.inr (5, [Value.int w1, Value.int h1, Value.ref q1, Value.ref q2, Value.ref q3, Value.ref q4, Value.ref q5, Value.ref q6])), (q1, Sum.inl (cy1, 100, Sum.inl f1)), (q2, Sum.inl (cy2, 100, Sum.inl f2)), (q3, Sum.inl (cy3, 100, Sum.inl f3)), (q4, Sum.inl (cy4, 100, Sum.inl f4)), (q5, Sum.inl (cy5, 100, Sum.inl f5)), (q6, Sum.inl (cy6, 100, Sum.inl f6))] H → va_D A [(h0, Sum.inr (5, [Value.int w1, Value.int h1, Value.ref q1, Value.ref q2, Value.ref q3, Value.ref q4, Value.ref q5, Value.ref q6])), (q1, Sum.inl (cy1, 100, Sum.inl f1)), (q2, Sum.inl (cy2, 100, Sum.inl f2)), (q3, Sum.inl (cy3, 100, Sum.inl f3)), (q4, Sum.inl (cy4, 100, Sum.inl f4)), (q5, Sum.inl (cy5, 100, Sum.inl f5)), (q6, Sum.inl (cy6, 100, Sum.inl f6))] → va_S A s.heap H locs → ∀ ls : Array Slot, lv_has ls 4 [(0, Value.ref h0), (3, Value.int (nI i))] → W p l e ({ frames := 0, cells := 0, slots := 0, locals := 0 }) s m args below meth c H locs 0 0 Q (F0 m 12 ls []) := by
  intro n
  induction n with
  | zero => intro f1 f2 f3 f4 f5 i hi v1 v2 v3 v4 v5 hn; exact absurd hn (Nat.not_lt_zero _)
  | succ n ih =>
    intro f1 f2 f3 f4 f5 i hi v1 v2 v3 v4 v5 hn H locs hP hD hS ls hl
    obtain ⟨hx, hb, hml, hown, hts⟩ := id F
    refine lv_iload_n hx hb dX6_renew_12 rfl (lv_at hl 1 rfl) ?_
    refine lv_bipush (v := 100) hx hb dX6_renew_13 (by decide) ?_
    refine lv_icmp_ge (tgt := 59) hx hb dX6_renew_15 (by decide) (fun c_1 => ?_) (fun c_1 => ?_)
    · skip
      have c_1n : 100 ≤ i := (nI_leI (by omega) (by omega)).mp c_1
      have c_1 := Int32.not_lt.mpr c_1
      exact kx_59 f1 f2 f3 f4 f5 (fun j hj => v1 j (by omega)) (fun j hj => v2 j (by omega)) (fun j hj => v3 j (by omega)) (fun j hj => v4 j (by omega)) (fun j hj => v5 j (by omega)) H locs (hP.sub [0, 1, 2, 3, 4, 5, 6] rfl) (hD.sub [0, 1, 2, 3, 4, 5, 6] (by decide) rfl) hS ls (lv_sub hl [] rfl)
    · skip
      have c_1n : i < 100 := nb_le (by omega) (by omega) c_1
      have c_1 := Int32.not_le.mp c_1
      refine lv_aload_n hx hb dX6_renew_18 rfl (lv_at hl 0 rfl) ?_
      refine va_get (D := D) (ci := 5) (v := Value.ref q1) (C := RX6) (T := TX6) (N := 8) hx hb hts inG_X6 hown hK hP 0 rfl rfl 2 (by decide) (hts _ kw_1_148) (fun _ h9 => h9) rfl dX6_renew_19 ?_
      refine lv_iload_n hx hb dX6_renew_22 rfl (lv_at hl 1 rfl) ?_
      refine lv_iconst (v := 0) hx hb dX6_renew_23 (by decide) ?_
      refine m_iast hx hb hK hP hD hS 1 0 rfl rfl i rfl (by omega) (by decide) dX6_renew_24 (fun g_2 H locs eg_2 hP hD hS => ?_)
      have hP : va_P D vwCl [(h0, Sum.inr (5, [Value.int w1, Value.int h1, Value.ref q1, Value.ref q2, Value.ref q3, Value.ref q4, Value.ref q5, Value.ref q6])), (q1, Sum.inl (cy1, 100, Sum.inl g_2)), (q2, Sum.inl (cy2, 100, Sum.inl f2)), (q3, Sum.inl (cy3, 100, Sum.inl f3)), (q4, Sum.inl (cy4, 100, Sum.inl f4)), (q5, Sum.inl (cy5, 100, Sum.inl f5)), (q6, Sum.inl (cy6, 100, Sum.inl f6))] H := hP
      have hD : va_D A [(h0, Sum.inr (5, [Value.int w1, Value.int h1, Value.ref q1, Value.ref q2, Value.ref q3, Value.ref q4, Value.ref q5, Value.ref q6])), (q1, Sum.inl (cy1, 100, Sum.inl g_2)), (q2, Sum.inl (cy2, 100, Sum.inl f2)), (q3, Sum.inl (cy3, 100, Sum.inl f3)), (q4, Sum.inl (cy4, 100, Sum.inl f4)), (q5, Sum.inl (cy5, 100, Sum.inl f5)), (q6, Sum.inl (cy6, 100, Sum.inl f6))] := hD
      refine lv_aload_n hx hb dX6_renew_25 rfl (lv_at hl 0 rfl) ?_
      refine va_get (D := D) (ci := 5) (v := Value.ref q2) (C := RX6) (T := TX6) (N := 8) hx hb hts inG_X6 hown hK hP 0 rfl rfl 3 (by decide) (hts _ kw_1_150) (fun _ h9 => h9) rfl dX6_renew_26 ?_
      refine lv_iload_n hx hb dX6_renew_29 rfl (lv_at hl 1 rfl) ?_
      refine lv_iconst (v := 0) hx hb dX6_renew_30 (by decide) ?_
      refine m_iast hx hb hK hP hD hS 2 1 rfl rfl i rfl (by omega) (by decide) dX6_renew_31 (fun g_3 H locs eg_3 hP hD hS => ?_)
      have hP : va_P D vwCl [(h0, Sum.inr (5, [Value.int w1, Value.int h1, Value.ref q1, Value.ref q2, Value.ref q3, Value.ref q4, Value.ref q5, Value.ref q6])), (q1, Sum.inl (cy1, 100, Sum.inl g_2)), (q2, Sum.inl (cy2, 100, Sum.inl g_3)), (q3, Sum.inl (cy3, 100, Sum.inl f3)), (q4, Sum.inl (cy4, 100, Sum.inl f4)), (q5, Sum.inl (cy5, 100, Sum.inl f5)), (q6, Sum.inl (cy6, 100, Sum.inl f6))] H := hP
      have hD : va_D A [(h0, Sum.inr (5, [Value.int w1, Value.int h1, Value.ref q1, Value.ref q2, Value.ref q3, Value.ref q4, Value.ref q5, Value.ref q6])), (q1, Sum.inl (cy1, 100, Sum.inl g_2)), (q2, Sum.inl (cy2, 100, Sum.inl g_3)), (q3, Sum.inl (cy3, 100, Sum.inl f3)), (q4, Sum.inl (cy4, 100, Sum.inl f4)), (q5, Sum.inl (cy5, 100, Sum.inl f5)), (q6, Sum.inl (cy6, 100, Sum.inl f6))] := hD
      refine lv_aload_n hx hb dX6_renew_32 rfl (lv_at hl 0 rfl) ?_
      refine va_get (D := D) (ci := 5) (v := Value.ref q3) (C := RX6) (T := TX6) (N := 8) hx hb hts inG_X6 hown hK hP 0 rfl rfl 4 (by decide) (hts _ kw_1_152) (fun _ h9 => h9) rfl dX6_renew_33 ?_
      refine lv_iload_n hx hb dX6_renew_36 rfl (lv_at hl 1 rfl) ?_
      refine lv_iconst (v := 0) hx hb dX6_renew_37 (by decide) ?_
      refine m_iast hx hb hK hP hD hS 3 2 rfl rfl i rfl (by omega) (by decide) dX6_renew_38 (fun g_4 H locs eg_4 hP hD hS => ?_)
      have hP : va_P D vwCl [(h0, Sum.inr (5, [Value.int w1, Value.int h1, Value.ref q1, Value.ref q2, Value.ref q3, Value.ref q4, Value.ref q5, Value.ref q6])), (q1, Sum.inl (cy1, 100, Sum.inl g_2)), (q2, Sum.inl (cy2, 100, Sum.inl g_3)), (q3, Sum.inl (cy3, 100, Sum.inl g_4)), (q4, Sum.inl (cy4, 100, Sum.inl f4)), (q5, Sum.inl (cy5, 100, Sum.inl f5)), (q6, Sum.inl (cy6, 100, Sum.inl f6))] H := hP
      have hD : va_D A [(h0, Sum.inr (5, [Value.int w1, Value.int h1, Value.ref q1, Value.ref q2, Value.ref q3, Value.ref q4, Value.ref q5, Value.ref q6])), (q1, Sum.inl (cy1, 100, Sum.inl g_2)), (q2, Sum.inl (cy2, 100, Sum.inl g_3)), (q3, Sum.inl (cy3, 100, Sum.inl g_4)), (q4, Sum.inl (cy4, 100, Sum.inl f4)), (q5, Sum.inl (cy5, 100, Sum.inl f5)), (q6, Sum.inl (cy6, 100, Sum.inl f6))] := hD
      refine lv_aload_n hx hb dX6_renew_39 rfl (lv_at hl 0 rfl) ?_
      refine va_get (D := D) (ci := 5) (v := Value.ref q4) (C := RX6) (T := TX6) (N := 8) hx hb hts inG_X6 hown hK hP 0 rfl rfl 5 (by decide) (hts _ kw_1_154) (fun _ h9 => h9) rfl dX6_renew_40 ?_
      refine lv_iload_n hx hb dX6_renew_43 rfl (lv_at hl 1 rfl) ?_
      refine lv_iconst (v := -1) hx hb dX6_renew_44 (by decide) ?_
      refine m_iast hx hb hK hP hD hS 4 3 rfl rfl i rfl (by omega) (by decide) dX6_renew_45 (fun g_5 H locs eg_5 hP hD hS => ?_)
      have hP : va_P D vwCl [(h0, Sum.inr (5, [Value.int w1, Value.int h1, Value.ref q1, Value.ref q2, Value.ref q3, Value.ref q4, Value.ref q5, Value.ref q6])), (q1, Sum.inl (cy1, 100, Sum.inl g_2)), (q2, Sum.inl (cy2, 100, Sum.inl g_3)), (q3, Sum.inl (cy3, 100, Sum.inl g_4)), (q4, Sum.inl (cy4, 100, Sum.inl g_5)), (q5, Sum.inl (cy5, 100, Sum.inl f5)), (q6, Sum.inl (cy6, 100, Sum.inl f6))] H := hP
      have hD : va_D A [(h0, Sum.inr (5, [Value.int w1, Value.int h1, Value.ref q1, Value.ref q2, Value.ref q3, Value.ref q4, Value.ref q5, Value.ref q6])), (q1, Sum.inl (cy1, 100, Sum.inl g_2)), (q2, Sum.inl (cy2, 100, Sum.inl g_3)), (q3, Sum.inl (cy3, 100, Sum.inl g_4)), (q4, Sum.inl (cy4, 100, Sum.inl g_5)), (q5, Sum.inl (cy5, 100, Sum.inl f5)), (q6, Sum.inl (cy6, 100, Sum.inl f6))] := hD
      refine lv_aload_n hx hb dX6_renew_46 rfl (lv_at hl 0 rfl) ?_
      refine va_get (D := D) (ci := 5) (v := Value.ref q5) (C := RX6) (T := TX6) (N := 8) hx hb hts inG_X6 hown hK hP 0 rfl rfl 6 (by decide) (hts _ kw_1_157) (fun _ h9 => h9) rfl dX6_renew_47 ?_
      refine lv_iload_n hx hb dX6_renew_50 rfl (lv_at hl 1 rfl) ?_
      refine lv_iconst (v := 0) hx hb dX6_renew_51 (by decide) ?_
      refine m_zast hx hb hK hP hD hS 5 4 rfl rfl i rfl (by omega) (by decide) dX6_renew_52 (fun g_6 H locs eg_6 hP hD hS => ?_)
      have hP : va_P D vwCl [(h0, Sum.inr (5, [Value.int w1, Value.int h1, Value.ref q1, Value.ref q2, Value.ref q3, Value.ref q4, Value.ref q5, Value.ref q6])), (q1, Sum.inl (cy1, 100, Sum.inl g_2)), (q2, Sum.inl (cy2, 100, Sum.inl g_3)), (q3, Sum.inl (cy3, 100, Sum.inl g_4)), (q4, Sum.inl (cy4, 100, Sum.inl g_5)), (q5, Sum.inl (cy5, 100, Sum.inl g_6)), (q6, Sum.inl (cy6, 100, Sum.inl f6))] H := hP
      have hD : va_D A [(h0, Sum.inr (5, [Value.int w1, Value.int h1, Value.ref q1, Value.ref q2, Value.ref q3, Value.ref q4, Value.ref q5, Value.ref q6])), (q1, Sum.inl (cy1, 100, Sum.inl g_2)), (q2, Sum.inl (cy2, 100, Sum.inl g_3)), (q3, Sum.inl (cy3, 100, Sum.inl g_4)), (q4, Sum.inl (cy4, 100, Sum.inl g_5)), (q5, Sum.inl (cy5, 100, Sum.inl g_6)), (q6, Sum.inl (cy6, 100, Sum.inl f6))] := hD
      refine lv_iinc (v := nI (i + 1)) (lv' := [(3, Value.int (nI (i + 1))), (0, Value.ref h0)]) hx hb dX6_renew_53 hl (k := 1) rfl (nI_add i 1) (by decide) rfl (fun ls hl => ?_)
      refine lv_goto (tgt := 12) hx hb dX6_renew_56 (by decide) ?_
      exact ih g_2 g_3 g_4 g_5 g_6 (i + 1) (by omega) (upd_all eg_2 v1) (upd_all eg_3 v2) (upd_all eg_4 v3) (upd_all eg_5 v4) (upd_all eg_6 v5) (by omega) H locs (hP.sub [0, 1, 2, 3, 4, 5, 6] rfl) (hD.sub [0, 1, 2, 3, 4, 5, 6] (by decide) rfl) hS ls (lv_sub hl [1, 0] rfl)
theorem dX6_renew_0 : decode cX6_renew 0 = .ok (.aload_n 0, 1) := by decide +kernel
theorem dX6_renew_1 : decode cX6_renew 1 = .ok (.iload_n 1, 1) := by decide +kernel
theorem kw_1_142 : Cond.fieldLink RX6 35 "IceFair$River" "width" "I" ∈ gw := gw_t1 (List.mem_of_getElem? (i := 142) (by decide +kernel)) (by decide +kernel)
theorem dX6_renew_2 : decode cX6_renew 2 = .ok (.putfield 35, 3) := by decide +kernel
theorem dX6_renew_5 : decode cX6_renew 5 = .ok (.aload_n 0, 1) := by decide +kernel
theorem dX6_renew_6 : decode cX6_renew 6 = .ok (.iload_n 2, 1) := by decide +kernel
theorem kw_1_145 : Cond.fieldLink RX6 39 "IceFair$River" "height" "I" ∈ gw := gw_t1 (List.mem_of_getElem? (i := 145) (by decide +kernel)) (by decide +kernel)
theorem dX6_renew_7 : decode cX6_renew 7 = .ok (.putfield 39, 3) := by decide +kernel
theorem dX6_renew_10 : decode cX6_renew 10 = .ok (.iconst 0, 1) := by decide +kernel
theorem dX6_renew_11 : decode cX6_renew 11 = .ok (.istore_n 3, 1) := by decide +kernel
theorem dX6_renew_59 : decode cX6_renew 59 = .ok (.return_, 1) := by decide +kernel
set_option maxHeartbeats 4000000 in
set_option maxRecDepth 100000 in
theorem c_River_renew (l : Launch) (D : va_G) (h0 : Nat) (q1 : Nat) (q2 : Nat) (q3 : Nat) (q4 : Nat) (q5 : Nat) (q6 : Nat) (cy1 : ClassId) (cy2 : ClassId) (cy3 : ClassId) (cy4 : ClassId) (cy5 : ClassId) (cy6 : ClassId) (f1 : Nat → Int32) (f2 : Nat → Int32) (f3 : Nat → Int32) (f4 : Nat → Int32) (f5 : Nat → Int32) (f6 : Nat → Int32) (w0 : Int32) (h9 : Int32) (w1 : Int32) (h1 : Int32) : cV l yX6_renew (.code yX6_renew cX6_renew 4 none) ({ frames := 0, cells := 0, slots := 0, locals := 0 }) D [(cy1, .int), (cy2, .int), (cy3, .int), (cy4, .int), (cy5, .boolean), (cy6, .boolean)] [(h0, Sum.inr (5, [Value.int w0, Value.int h9, Value.ref q1, Value.ref q2, Value.ref q3, Value.ref q4, Value.ref q5, Value.ref q6])), (q1, Sum.inl (cy1, 100, Sum.inl f1)), (q2, Sum.inl (cy2, 100, Sum.inl f2)), (q3, Sum.inl (cy3, 100, Sum.inl f3)), (q4, Sum.inl (cy4, 100, Sum.inl f4)), (q5, Sum.inl (cy5, 100, Sum.inl f5)), (q6, Sum.inl (cy6, 100, Sum.inl f6))] xT [Value.ref h0, Value.int w1, Value.int h1] (S := Unit) (fun _ => True) (fun _ => []) (fun _ => [(h0, Sum.inr (5, [Value.int w1, Value.int h1, Value.ref q1, Value.ref q2, Value.ref q3, Value.ref q4, Value.ref q5, Value.ref q6])), (q1, Sum.inl (cy1, 100, Sum.inl (fun _ => 0))), (q2, Sum.inl (cy2, 100, Sum.inl (fun _ => 0))), (q3, Sum.inl (cy3, 100, Sum.inl (fun _ => 0))), (q4, Sum.inl (cy4, 100, Sum.inl (fun _ => (-1)))), (q5, Sum.inl (cy5, 100, Sum.inl (fun _ => 0))), (q6, Sum.inl (cy6, 100, Sum.inl f6))]) := by
  intro sz
  refine Met.ofW (cc := cX6_renew) (maxL := 4) (ret := none) (by decide) rfl ?_
  intro p e s m args below meth c s₁ B hml hv
  obtain ⟨rfl, hsz, hP, hK, hD0, hX⟩ := hv
  have hx := B.exec
  have hb := B.bytes
  have hr := B.returns
  have hts0 := atoms_spec (ws := .code yX6_renew cX6_renew 4 none :: gw) B.pre
  have hts := fun (w : Cond) (h : w ∈ gw) => hts0 w (List.mem_cons_of_mem _ h)
  have hown : s.vm.findClass RX6 = some m.cls := findClass_of_methodNamed B.named
  have hlocks := B.notSynchronized
  have F : mFix p s m _ c cX6_renew 4 RX6 := ⟨hx, hb, hml, hown, hts⟩
  subst hsz
  have hD := hD0.self (sz := s.heap.size)
  generalize hAe : va_A [(h0, Sum.inr (5, [Value.int w0, Value.int h9, Value.ref q1, Value.ref q2, Value.ref q3, Value.ref q4, Value.ref q5, Value.ref q6])), (q1, Sum.inl (cy1, 100, Sum.inl f1)), (q2, Sum.inl (cy2, 100, Sum.inl f2)), (q3, Sum.inl (cy3, 100, Sum.inl f3)), (q4, Sum.inl (cy4, 100, Sum.inl f4)), (q5, Sum.inl (cy5, 100, Sum.inl f5)), (q6, Sum.inl (cy6, 100, Sum.inl f6))] s.heap.size = A at hD hX ⊢
  have hA : ∀ q : Nat, s.heap.size ≤ q → A q := fun q h => by rw [← hAe]; exact Or.inr h
  have hS : va_S A s.heap s.heap [] := va_S.rf
  have hl := lv_entry ([Value.ref h0, Value.int w1, Value.int h1]) (n := 4) (Nat.le_of_ble_eq_true rfl)
  rw [lg_entry_eq]
  generalize (lg_sl ([Value.ref h0, Value.int w1, Value.int h1]) ++ List.replicate (4 - (lg_sl ([Value.ref h0, Value.int w1, Value.int h1])).length) Slot.unset).toArray = ls at hl ⊢
  have hl : lv_has ls 4 [(0, Value.ref h0), (1, Value.int w1), (2, Value.int h1)] := hl
  have hP : va_P D vwCl [(h0, Sum.inr (5, [Value.int w0, Value.int h9, Value.ref q1, Value.ref q2, Value.ref q3, Value.ref q4, Value.ref q5, Value.ref q6])), (q1, Sum.inl (cy1, 100, Sum.inl f1)), (q2, Sum.inl (cy2, 100, Sum.inl f2)), (q3, Sum.inl (cy3, 100, Sum.inl f3)), (q4, Sum.inl (cy4, 100, Sum.inl f4)), (q5, Sum.inl (cy5, 100, Sum.inl f5)), (q6, Sum.inl (cy6, 100, Sum.inl f6))] s.heap := hP
  refine lv_aload_n hx hb dX6_renew_0 rfl (lv_at hl 0 rfl) ?_
  refine lv_iload_n hx hb dX6_renew_1 rfl (lv_at hl 1 rfl) ?_
  refine va_put (D := D) (ci := 5) (v := Value.int w1) (ty := .int) (C := RX6) (T := TX6) (N := 8) hx hb hts inG_X6 tyX6 tyX6_ok nmX6 hown hK hP hD hS 0 rfl rfl 0 (by decide) (hts _ kw_1_142) (fun _ h9 => h9) rfl (by decide +kernel) rfl rfl (Nat.le_of_ble_eq_true rfl) dX6_renew_2 (fun H locs hP hD hS => ?_)
  have hP : va_P D vwCl [(h0, Sum.inr (5, [Value.int w1, Value.int h9, Value.ref q1, Value.ref q2, Value.ref q3, Value.ref q4, Value.ref q5, Value.ref q6])), (q1, Sum.inl (cy1, 100, Sum.inl f1)), (q2, Sum.inl (cy2, 100, Sum.inl f2)), (q3, Sum.inl (cy3, 100, Sum.inl f3)), (q4, Sum.inl (cy4, 100, Sum.inl f4)), (q5, Sum.inl (cy5, 100, Sum.inl f5)), (q6, Sum.inl (cy6, 100, Sum.inl f6))] H := hP
  have hD : va_D A [(h0, Sum.inr (5, [Value.int w1, Value.int h9, Value.ref q1, Value.ref q2, Value.ref q3, Value.ref q4, Value.ref q5, Value.ref q6])), (q1, Sum.inl (cy1, 100, Sum.inl f1)), (q2, Sum.inl (cy2, 100, Sum.inl f2)), (q3, Sum.inl (cy3, 100, Sum.inl f3)), (q4, Sum.inl (cy4, 100, Sum.inl f4)), (q5, Sum.inl (cy5, 100, Sum.inl f5)), (q6, Sum.inl (cy6, 100, Sum.inl f6))] := hD
  refine lv_aload_n hx hb dX6_renew_5 rfl (lv_at hl 0 rfl) ?_
  refine lv_iload_n hx hb dX6_renew_6 rfl (lv_at hl 2 rfl) ?_
  refine va_put (D := D) (ci := 5) (v := Value.int h1) (ty := .int) (C := RX6) (T := TX6) (N := 8) hx hb hts inG_X6 tyX6 tyX6_ok nmX6 hown hK hP hD hS 0 rfl rfl 1 (by decide) (hts _ kw_1_145) (fun _ h9 => h9) rfl (by decide +kernel) rfl rfl (Nat.le_of_ble_eq_true rfl) dX6_renew_7 (fun H locs hP hD hS => ?_)
  have hP : va_P D vwCl [(h0, Sum.inr (5, [Value.int w1, Value.int h1, Value.ref q1, Value.ref q2, Value.ref q3, Value.ref q4, Value.ref q5, Value.ref q6])), (q1, Sum.inl (cy1, 100, Sum.inl f1)), (q2, Sum.inl (cy2, 100, Sum.inl f2)), (q3, Sum.inl (cy3, 100, Sum.inl f3)), (q4, Sum.inl (cy4, 100, Sum.inl f4)), (q5, Sum.inl (cy5, 100, Sum.inl f5)), (q6, Sum.inl (cy6, 100, Sum.inl f6))] H := hP
  have hD : va_D A [(h0, Sum.inr (5, [Value.int w1, Value.int h1, Value.ref q1, Value.ref q2, Value.ref q3, Value.ref q4, Value.ref q5, Value.ref q6])), (q1, Sum.inl (cy1, 100, Sum.inl f1)), (q2, Sum.inl (cy2, 100, Sum.inl f2)), (q3, Sum.inl (cy3, 100, Sum.inl f3)), (q4, Sum.inl (cy4, 100, Sum.inl f4)), (q5, Sum.inl (cy5, 100, Sum.inl f5)), (q6, Sum.inl (cy6, 100, Sum.inl f6))] := hD
  refine lv_iconst (v := 0) hx hb dX6_renew_10 (by decide) ?_
  refine lv_istore_n (lv' := [(3, Value.int 0), (0, Value.ref h0), (1, Value.int w1), (2, Value.int h1)]) hx hb dX6_renew_11 rfl hl (by decide) rfl (fun ls hl => ?_)
  refine lp_River_renew F hA h0 q1 q2 q3 q4 q5 q6 cy1 cy2 cy3 cy4 cy5 cy6 f6 w1 h1 (hK.sub [0, 1, 2, 3, 4, 5] rfl) (fun f1_1 f2_2 f3_3 f4_4 f5_5 h_6 h_7 h_8 h_9 h_10 H locs hP hD hS ls hl => ?_) _ f1 f2 f3 f4 f5 0 (by omega) (fun j hj => absurd hj (Nat.not_lt_zero j)) (fun j hj => absurd hj (Nat.not_lt_zero j)) (fun j hj => absurd hj (Nat.not_lt_zero j)) (fun j hj => absurd hj (Nat.not_lt_zero j)) (fun j hj => absurd hj (Nat.not_lt_zero j)) (Nat.lt_succ_self _) _ _ (hP.sub [0, 1, 2, 3, 4, 5, 6] rfl) (hD.sub [0, 1, 2, 3, 4, 5, 6] (by decide) rfl) hS ls (lv_sub hl [1, 0] rfl)
  have h_6 : ∀ j, j < 100 → f1_1 j = 0 := h_6
  have h_7 : ∀ j, j < 100 → f2_2 j = 0 := h_7
  have h_8 : ∀ j, j < 100 → f3_3 j = 0 := h_8
  have h_9 : ∀ j, j < 100 → f4_4 j = (-1) := h_9
  have h_10 : ∀ j, j < 100 → f5_5 j = 0 := h_10
  have hP := va_P_arr hP 1 (fun _ => 0) rfl h_6
  have hP := va_P_arr hP 2 (fun _ => 0) rfl h_7
  have hP := va_P_arr hP 3 (fun _ => 0) rfl h_8
  have hP := va_P_arr hP 4 (fun _ => (-1)) rfl h_9
  have hP := va_P_arr hP 5 (fun _ => 0) rfl h_10
  have hP : va_P D vwCl [(h0, Sum.inr (5, [Value.int w1, Value.int h1, Value.ref q1, Value.ref q2, Value.ref q3, Value.ref q4, Value.ref q5, Value.ref q6])), (q1, Sum.inl (cy1, 100, Sum.inl (fun _ => 0))), (q2, Sum.inl (cy2, 100, Sum.inl (fun _ => 0))), (q3, Sum.inl (cy3, 100, Sum.inl (fun _ => 0))), (q4, Sum.inl (cy4, 100, Sum.inl (fun _ => (-1)))), (q5, Sum.inl (cy5, 100, Sum.inl (fun _ => 0))), (q6, Sum.inl (cy6, 100, Sum.inl f6))] H := hP
  have hD : va_D A [(h0, Sum.inr (5, [Value.int w1, Value.int h1, Value.ref q1, Value.ref q2, Value.ref q3, Value.ref q4, Value.ref q5, Value.ref q6])), (q1, Sum.inl (cy1, 100, Sum.inl (fun _ => 0))), (q2, Sum.inl (cy2, 100, Sum.inl (fun _ => 0))), (q3, Sum.inl (cy3, 100, Sum.inl (fun _ => 0))), (q4, Sum.inl (cy4, 100, Sum.inl (fun _ => (-1)))), (q5, Sum.inl (cy5, 100, Sum.inl (fun _ => 0))), (q6, Sum.inl (cy6, 100, Sum.inl f6))] := va_D_same hD rfl
  have hP9 := hP.sub (ws' := [(h0, Sum.inr (5, [Value.int w1, Value.int h1, Value.ref q1, Value.ref q2, Value.ref q3, Value.ref q4, Value.ref q5, Value.ref q6])), (q1, Sum.inl (cy1, 100, Sum.inl (fun _ => 0))), (q2, Sum.inl (cy2, 100, Sum.inl (fun _ => 0))), (q3, Sum.inl (cy3, 100, Sum.inl (fun _ => 0))), (q4, Sum.inl (cy4, 100, Sum.inl (fun _ => (-1)))), (q5, Sum.inl (cy5, 100, Sum.inl (fun _ => 0))), (q6, Sum.inl (cy6, 100, Sum.inl f6))]) [0, 1, 2, 3, 4, 5, 6] rfl
  have hD9 := hD.sub (ws' := [(h0, Sum.inr (5, [Value.int w1, Value.int h1, Value.ref q1, Value.ref q2, Value.ref q3, Value.ref q4, Value.ref q5, Value.ref q6])), (q1, Sum.inl (cy1, 100, Sum.inl (fun _ => 0))), (q2, Sum.inl (cy2, 100, Sum.inl (fun _ => 0))), (q3, Sum.inl (cy3, 100, Sum.inl (fun _ => 0))), (q4, Sum.inl (cy4, 100, Sum.inl (fun _ => (-1)))), (q5, Sum.inl (cy5, 100, Sum.inl (fun _ => 0))), (q6, Sum.inl (cy6, 100, Sum.inl f6))]) [0, 1, 2, 3, 4, 5, 6] (by decide) rfl
  have hK9 := hK.sub (tys' := []) [] rfl
  refine W.widen (k := 0) (n := 0) (by decide) (by decide) ?_
  exact W.vret hx hb hr (fun t ht hW => ⟨⟨(), rfl, trivial, by rw [ht]; exact hP9, va_K.moved hW.alike hK9, hD9⟩, hS.F ht⟩) hS.2.2 dX6_renew_59
theorem dX6_init_0 : decode cX6_init 0 = .ok (.aload_n 0, 1) := by decide +kernel
theorem kw_1_137 : Cond.methodLink RX6 3 Lib.objectInit ∈ gw := gw_t1 (List.mem_of_getElem? (i := 137) (by decide +kernel)) (by decide +kernel)
theorem dX6_init_1 : decode cX6_init 1 = .ok (.invokespecial 3, 3) := by decide +kernel
theorem dX6_init_4 : decode cX6_init 4 = .ok (.aload_n 0, 1) := by decide +kernel
theorem dX6_init_5 : decode cX6_init 5 = .ok (.bipush 100, 2) := by decide +kernel
theorem dX6_init_7 : decode cX6_init 7 = .ok (.newarray .int, 2) := by decide +kernel
theorem dX6_init_9 : decode cX6_init 9 = .ok (.putfield 9, 3) := by decide +kernel
theorem dX6_init_12 : decode cX6_init 12 = .ok (.aload_n 0, 1) := by decide +kernel
theorem dX6_init_13 : decode cX6_init 13 = .ok (.bipush 100, 2) := by decide +kernel
theorem dX6_init_15 : decode cX6_init 15 = .ok (.newarray .int, 2) := by decide +kernel
theorem dX6_init_17 : decode cX6_init 17 = .ok (.putfield 15, 3) := by decide +kernel
theorem dX6_init_20 : decode cX6_init 20 = .ok (.aload_n 0, 1) := by decide +kernel
theorem dX6_init_21 : decode cX6_init 21 = .ok (.bipush 100, 2) := by decide +kernel
theorem dX6_init_23 : decode cX6_init 23 = .ok (.newarray .int, 2) := by decide +kernel
theorem dX6_init_25 : decode cX6_init 25 = .ok (.putfield 18, 3) := by decide +kernel
theorem dX6_init_28 : decode cX6_init 28 = .ok (.aload_n 0, 1) := by decide +kernel
theorem dX6_init_29 : decode cX6_init 29 = .ok (.bipush 100, 2) := by decide +kernel
theorem dX6_init_31 : decode cX6_init 31 = .ok (.newarray .int, 2) := by decide +kernel
theorem dX6_init_33 : decode cX6_init 33 = .ok (.putfield 21, 3) := by decide +kernel
theorem dX6_init_36 : decode cX6_init 36 = .ok (.aload_n 0, 1) := by decide +kernel
theorem dX6_init_37 : decode cX6_init 37 = .ok (.bipush 100, 2) := by decide +kernel
theorem kw_1_177 : Cond.arrayClass .boolean ∈ gw := gw_t1 (List.mem_of_getElem? (i := 177) (by decide +kernel)) (by decide +kernel)
theorem dX6_init_39 : decode cX6_init 39 = .ok (.newarray .boolean, 2) := by decide +kernel
theorem dX6_init_41 : decode cX6_init 41 = .ok (.putfield 24, 3) := by decide +kernel
theorem dX6_init_44 : decode cX6_init 44 = .ok (.aload_n 0, 1) := by decide +kernel
theorem dX6_init_45 : decode cX6_init 45 = .ok (.bipush 100, 2) := by decide +kernel
theorem dX6_init_47 : decode cX6_init 47 = .ok (.newarray .boolean, 2) := by decide +kernel
theorem kw_1_159 : Cond.fieldLink RX6 28 "IceFair$River" "breaking" "[Z" ∈ gw := gw_t1 (List.mem_of_getElem? (i := 159) (by decide +kernel)) (by decide +kernel)
theorem dX6_init_49 : decode cX6_init 49 = .ok (.putfield 28, 3) := by decide +kernel
theorem dX6_init_52 : decode cX6_init 52 = .ok (.aload_n 0, 1) := by decide +kernel
theorem dX6_init_53 : decode cX6_init 53 = .ok (.iconst 5, 1) := by decide +kernel
theorem dX6_init_54 : decode cX6_init 54 = .ok (.iconst 5, 1) := by decide +kernel
theorem kw_1_138 : Cond.methodLink RX6 31 yX6_renew ∈ gw := gw_t1 (List.mem_of_getElem? (i := 138) (by decide +kernel)) (by decide +kernel)
theorem kw_1_139 : Cond.instanceMethod yX6_renew ∈ gw := gw_t1 (List.mem_of_getElem? (i := 139) (by decide +kernel)) (by decide +kernel)
theorem kw_1_140 : Cond.selects RX6 yX6_renew yX6_renew ∈ gw := gw_t1 (List.mem_of_getElem? (i := 140) (by decide +kernel)) (by decide +kernel)
theorem kw_1_7 : Cond.initialized RX6 ∈ gw := gw_t1 (List.mem_of_getElem? (i := 7) (by decide +kernel)) (by decide +kernel)
theorem kw_1_141 : Cond.code yX6_renew cX6_renew 4 none ∈ gw := gw_t1 (List.mem_of_getElem? (i := 141) (by decide +kernel)) (by decide +kernel)
theorem gk_X6_31 : GoodIn gw (wsV RX6 31 RX6 yX6_renew (.code yX6_renew cX6_renew 4 none :: gw)) ∧ (yX6_renew.cls = RX6 ∧ yX6_renew.cls ≠ "java/lang/invoke/MethodHandle" ∧ yX6_renew.cls ≠ "java/lang/invoke/VarHandle" ∧ (parseMethodDescriptor yX6_renew.desc).map (fun d => d.parameters.length) = some 2) := ⟨gi_V kw_1_138 kw_1_139 kw_1_140 kw_1_7 kw_1_141, by decide +kernel⟩
theorem dX6_init_55 : decode cX6_init 55 = .ok (.invokevirtual 31, 3) := by decide +kernel
theorem dX6_init_58 : decode cX6_init 58 = .ok (.return_, 1) := by decide +kernel
set_option maxHeartbeats 4000000 in
set_option maxRecDepth 100000 in
theorem c_River_init (l : Launch) (D : va_G) (h0 : Nat) : cV l yX6_init (.code yX6_init cX6_init 1 none) ({ frames := 1, cells := 6, slots := 600, locals := 23 }) D [] [(h0, Sum.inr (5, [Value.int 0, Value.int 0, Value.null, Value.null, Value.null, Value.null, Value.null, Value.null]))] xT [Value.ref h0] (S := Nat × Nat × Nat × Nat × Nat × Nat × ClassId × ClassId × ClassId × ClassId × ClassId × ClassId) (fun u => match u with | (q1, q2, q3, q4, q5, q6, cy1, cy2, cy3, cy4, cy5, cy6) => True) (fun u => match u with | (q1, q2, q3, q4, q5, q6, cy1, cy2, cy3, cy4, cy5, cy6) => [(cy1, .int), (cy2, .int), (cy3, .int), (cy4, .int), (cy5, .boolean), (cy6, .boolean)]) (fun u => match u with | (q1, q2, q3, q4, q5, q6, cy1, cy2, cy3, cy4, cy5, cy6) => [(h0, Sum.inr (5, [Value.int 5, Value.int 5, Value.ref q1, Value.ref q2, Value.ref q3, Value.ref q4, Value.ref q5, Value.ref q6])), (q1, Sum.inl (cy1, 100, Sum.inl (fun _ => 0))), (q2, Sum.inl (cy2, 100, Sum.inl (fun _ => 0))), (q3, Sum.inl (cy3, 100, Sum.inl (fun _ => 0))), (q4, Sum.inl (cy4, 100, Sum.inl (fun _ => (-1)))), (q5, Sum.inl (cy5, 100, Sum.inl (fun _ => 0))), (q6, Sum.inl (cy6, 100, Sum.inl (fun _ => 0)))]) := by
  intro sz
  refine Met.ofW (cc := cX6_init) (maxL := 1) (ret := none) (by decide) rfl ?_
  intro p e s m args below meth c s₁ B hml hv
  obtain ⟨rfl, hsz, hP, hK, hD0, hX⟩ := hv
  have hx := B.exec
  have hb := B.bytes
  have hr := B.returns
  have hts0 := atoms_spec (ws := .code yX6_init cX6_init 1 none :: gw) B.pre
  have hts := fun (w : Cond) (h : w ∈ gw) => hts0 w (List.mem_cons_of_mem _ h)
  have hown : s.vm.findClass RX6 = some m.cls := findClass_of_methodNamed B.named
  have hlocks := B.notSynchronized
  have hin : meth.name = "<init>" := (name_of_methodNamed B.named B.method).1
  have F : mFix p s m _ c cX6_init 1 RX6 := ⟨hx, hb, hml, hown, hts⟩
  subst hsz
  have hD := hD0.self (sz := s.heap.size)
  generalize hAe : va_A [(h0, Sum.inr (5, [Value.int 0, Value.int 0, Value.null, Value.null, Value.null, Value.null, Value.null, Value.null]))] s.heap.size = A at hD hX ⊢
  have hA : ∀ q : Nat, s.heap.size ≤ q → A q := fun q h => by rw [← hAe]; exact Or.inr h
  have hS : va_S A s.heap s.heap [] := va_S.rf
  have hl := lv_entry ([Value.ref h0]) (n := 1) (Nat.le_of_ble_eq_true rfl)
  rw [lg_entry_eq]
  generalize (lg_sl ([Value.ref h0]) ++ List.replicate (1 - (lg_sl ([Value.ref h0])).length) Slot.unset).toArray = ls at hl ⊢
  have hl : lv_has ls 1 [(0, Value.ref h0)] := hl
  have hP : va_P D vwCl [(h0, Sum.inr (5, [Value.int 0, Value.int 0, Value.null, Value.null, Value.null, Value.null, Value.null, Value.null]))] s.heap := hP
  refine lv_aload_n hx hb dX6_init_0 rfl (lv_at hl 0 rfl) ?_
  refine W.objInit hx hb hown (hts _ kw_1_137) (hts _ kw_1_30) (hts _ kw_1_31) rfl (by rw [hml]; exact hl.1) rfl dX6_init_1 (Nat.le_of_ble_eq_true rfl) (Nat.le_of_ble_eq_true rfl) ?_
  refine W.eq (g2 := F0 m 4 ls []) rfl ?_
  refine lv_aload_n hx hb dX6_init_4 rfl (lv_at hl 0 rfl) ?_
  refine lv_bipush (v := 100) hx hb dX6_init_5 (by decide) ?_
  refine va_newa (atype := .int) (a0 := (100, .inl (fun _ => 0))) (N' := 100) hx hb (hts _ kw_1_47) (ty := .int) rfl hK hP hD hS hA (fun _ => rfl) (by decide) (by decide) (by decide) (Nat.le_of_ble_eq_true rfl) (Nat.le_of_ble_eq_true rfl) dX6_init_7 (fun q_1 cy_2 H hK hP hD hS => ?_)
  have hK : va_K D vwCl [(cy_2, .int)] s := hK
  have hP : va_P D vwCl [(h0, Sum.inr (5, [Value.int 0, Value.int 0, Value.null, Value.null, Value.null, Value.null, Value.null, Value.null])), (q_1, Sum.inl (cy_2, 100, Sum.inl (fun _ => 0)))] H := hP
  have hD : va_D A [(h0, Sum.inr (5, [Value.int 0, Value.int 0, Value.null, Value.null, Value.null, Value.null, Value.null, Value.null])), (q_1, Sum.inl (cy_2, 100, Sum.inl (fun _ => 0)))] := hD
  refine W.widen (k := 1) (n := 100) (by decide) (by decide) ?_
  refine va_putF (D := D) (ci := 5) (v := Value.ref q_1) (ty := .array .int) (C := RX6) (T := TX6) (N := 8) hx hb hts inG_X6 tyX6 tyX6_ok nmX6 hown hK hP hD hS 0 rfl rfl 2 (by decide) (hts _ kw_1_148) (fun _ h9 => h9) rfl hin rfl (by decide +kernel) rfl rfl (Nat.le_of_ble_eq_true rfl) dX6_init_9 (fun H locs hP hD hS => ?_)
  have hP : va_P D vwCl [(h0, Sum.inr (5, [Value.int 0, Value.int 0, Value.ref q_1, Value.null, Value.null, Value.null, Value.null, Value.null])), (q_1, Sum.inl (cy_2, 100, Sum.inl (fun _ => 0)))] H := hP
  have hD : va_D A [(h0, Sum.inr (5, [Value.int 0, Value.int 0, Value.ref q_1, Value.null, Value.null, Value.null, Value.null, Value.null])), (q_1, Sum.inl (cy_2, 100, Sum.inl (fun _ => 0)))] := hD
  refine lv_aload_n hx hb dX6_init_12 rfl (lv_at hl 0 rfl) ?_
  refine lv_bipush (v := 100) hx hb dX6_init_13 (by decide) ?_
  refine va_newa (atype := .int) (a0 := (100, .inl (fun _ => 0))) (N' := 100) hx hb (hts _ kw_1_47) (ty := .int) rfl hK hP hD hS hA (fun _ => rfl) (by decide) (by decide) (by decide) (Nat.le_of_ble_eq_true rfl) (Nat.le_of_ble_eq_true rfl) dX6_init_15 (fun q_3 cy_4 H hK hP hD hS => ?_)
  have hK : va_K D vwCl [(cy_2, .int), (cy_4, .int)] s := hK
  have hP : va_P D vwCl [(h0, Sum.inr (5, [Value.int 0, Value.int 0, Value.ref q_1, Value.null, Value.null, Value.null, Value.null, Value.null])), (q_1, Sum.inl (cy_2, 100, Sum.inl (fun _ => 0))), (q_3, Sum.inl (cy_4, 100, Sum.inl (fun _ => 0)))] H := hP
  have hD : va_D A [(h0, Sum.inr (5, [Value.int 0, Value.int 0, Value.ref q_1, Value.null, Value.null, Value.null, Value.null, Value.null])), (q_1, Sum.inl (cy_2, 100, Sum.inl (fun _ => 0))), (q_3, Sum.inl (cy_4, 100, Sum.inl (fun _ => 0)))] := hD
  refine W.widen (k := 2) (n := 200) (by decide) (by decide) ?_
  refine va_putF (D := D) (ci := 5) (v := Value.ref q_3) (ty := .array .int) (C := RX6) (T := TX6) (N := 8) hx hb hts inG_X6 tyX6 tyX6_ok nmX6 hown hK hP hD hS 0 rfl rfl 3 (by decide) (hts _ kw_1_150) (fun _ h9 => h9) rfl hin rfl (by decide +kernel) rfl rfl (Nat.le_of_ble_eq_true rfl) dX6_init_17 (fun H locs hP hD hS => ?_)
  have hP : va_P D vwCl [(h0, Sum.inr (5, [Value.int 0, Value.int 0, Value.ref q_1, Value.ref q_3, Value.null, Value.null, Value.null, Value.null])), (q_1, Sum.inl (cy_2, 100, Sum.inl (fun _ => 0))), (q_3, Sum.inl (cy_4, 100, Sum.inl (fun _ => 0)))] H := hP
  have hD : va_D A [(h0, Sum.inr (5, [Value.int 0, Value.int 0, Value.ref q_1, Value.ref q_3, Value.null, Value.null, Value.null, Value.null])), (q_1, Sum.inl (cy_2, 100, Sum.inl (fun _ => 0))), (q_3, Sum.inl (cy_4, 100, Sum.inl (fun _ => 0)))] := hD
  refine lv_aload_n hx hb dX6_init_20 rfl (lv_at hl 0 rfl) ?_
  refine lv_bipush (v := 100) hx hb dX6_init_21 (by decide) ?_
  refine va_newa (atype := .int) (a0 := (100, .inl (fun _ => 0))) (N' := 100) hx hb (hts _ kw_1_47) (ty := .int) rfl hK hP hD hS hA (fun _ => rfl) (by decide) (by decide) (by decide) (Nat.le_of_ble_eq_true rfl) (Nat.le_of_ble_eq_true rfl) dX6_init_23 (fun q_5 cy_6 H hK hP hD hS => ?_)
  have hK : va_K D vwCl [(cy_2, .int), (cy_4, .int), (cy_6, .int)] s := hK
  have hP : va_P D vwCl [(h0, Sum.inr (5, [Value.int 0, Value.int 0, Value.ref q_1, Value.ref q_3, Value.null, Value.null, Value.null, Value.null])), (q_1, Sum.inl (cy_2, 100, Sum.inl (fun _ => 0))), (q_3, Sum.inl (cy_4, 100, Sum.inl (fun _ => 0))), (q_5, Sum.inl (cy_6, 100, Sum.inl (fun _ => 0)))] H := hP
  have hD : va_D A [(h0, Sum.inr (5, [Value.int 0, Value.int 0, Value.ref q_1, Value.ref q_3, Value.null, Value.null, Value.null, Value.null])), (q_1, Sum.inl (cy_2, 100, Sum.inl (fun _ => 0))), (q_3, Sum.inl (cy_4, 100, Sum.inl (fun _ => 0))), (q_5, Sum.inl (cy_6, 100, Sum.inl (fun _ => 0)))] := hD
  refine W.widen (k := 3) (n := 300) (by decide) (by decide) ?_
  refine va_putF (D := D) (ci := 5) (v := Value.ref q_5) (ty := .array .int) (C := RX6) (T := TX6) (N := 8) hx hb hts inG_X6 tyX6 tyX6_ok nmX6 hown hK hP hD hS 0 rfl rfl 4 (by decide) (hts _ kw_1_152) (fun _ h9 => h9) rfl hin rfl (by decide +kernel) rfl rfl (Nat.le_of_ble_eq_true rfl) dX6_init_25 (fun H locs hP hD hS => ?_)
  have hP : va_P D vwCl [(h0, Sum.inr (5, [Value.int 0, Value.int 0, Value.ref q_1, Value.ref q_3, Value.ref q_5, Value.null, Value.null, Value.null])), (q_1, Sum.inl (cy_2, 100, Sum.inl (fun _ => 0))), (q_3, Sum.inl (cy_4, 100, Sum.inl (fun _ => 0))), (q_5, Sum.inl (cy_6, 100, Sum.inl (fun _ => 0)))] H := hP
  have hD : va_D A [(h0, Sum.inr (5, [Value.int 0, Value.int 0, Value.ref q_1, Value.ref q_3, Value.ref q_5, Value.null, Value.null, Value.null])), (q_1, Sum.inl (cy_2, 100, Sum.inl (fun _ => 0))), (q_3, Sum.inl (cy_4, 100, Sum.inl (fun _ => 0))), (q_5, Sum.inl (cy_6, 100, Sum.inl (fun _ => 0)))] := hD
  refine lv_aload_n hx hb dX6_init_28 rfl (lv_at hl 0 rfl) ?_
  refine lv_bipush (v := 100) hx hb dX6_init_29 (by decide) ?_
  refine va_newa (atype := .int) (a0 := (100, .inl (fun _ => 0))) (N' := 100) hx hb (hts _ kw_1_47) (ty := .int) rfl hK hP hD hS hA (fun _ => rfl) (by decide) (by decide) (by decide) (Nat.le_of_ble_eq_true rfl) (Nat.le_of_ble_eq_true rfl) dX6_init_31 (fun q_7 cy_8 H hK hP hD hS => ?_)
  have hK : va_K D vwCl [(cy_2, .int), (cy_4, .int), (cy_6, .int), (cy_8, .int)] s := hK
  have hP : va_P D vwCl [(h0, Sum.inr (5, [Value.int 0, Value.int 0, Value.ref q_1, Value.ref q_3, Value.ref q_5, Value.null, Value.null, Value.null])), (q_1, Sum.inl (cy_2, 100, Sum.inl (fun _ => 0))), (q_3, Sum.inl (cy_4, 100, Sum.inl (fun _ => 0))), (q_5, Sum.inl (cy_6, 100, Sum.inl (fun _ => 0))), (q_7, Sum.inl (cy_8, 100, Sum.inl (fun _ => 0)))] H := hP
  have hD : va_D A [(h0, Sum.inr (5, [Value.int 0, Value.int 0, Value.ref q_1, Value.ref q_3, Value.ref q_5, Value.null, Value.null, Value.null])), (q_1, Sum.inl (cy_2, 100, Sum.inl (fun _ => 0))), (q_3, Sum.inl (cy_4, 100, Sum.inl (fun _ => 0))), (q_5, Sum.inl (cy_6, 100, Sum.inl (fun _ => 0))), (q_7, Sum.inl (cy_8, 100, Sum.inl (fun _ => 0)))] := hD
  refine W.widen (k := 4) (n := 400) (by decide) (by decide) ?_
  refine va_putF (D := D) (ci := 5) (v := Value.ref q_7) (ty := .array .int) (C := RX6) (T := TX6) (N := 8) hx hb hts inG_X6 tyX6 tyX6_ok nmX6 hown hK hP hD hS 0 rfl rfl 5 (by decide) (hts _ kw_1_154) (fun _ h9 => h9) rfl hin rfl (by decide +kernel) rfl rfl (Nat.le_of_ble_eq_true rfl) dX6_init_33 (fun H locs hP hD hS => ?_)
  have hP : va_P D vwCl [(h0, Sum.inr (5, [Value.int 0, Value.int 0, Value.ref q_1, Value.ref q_3, Value.ref q_5, Value.ref q_7, Value.null, Value.null])), (q_1, Sum.inl (cy_2, 100, Sum.inl (fun _ => 0))), (q_3, Sum.inl (cy_4, 100, Sum.inl (fun _ => 0))), (q_5, Sum.inl (cy_6, 100, Sum.inl (fun _ => 0))), (q_7, Sum.inl (cy_8, 100, Sum.inl (fun _ => 0)))] H := hP
  have hD : va_D A [(h0, Sum.inr (5, [Value.int 0, Value.int 0, Value.ref q_1, Value.ref q_3, Value.ref q_5, Value.ref q_7, Value.null, Value.null])), (q_1, Sum.inl (cy_2, 100, Sum.inl (fun _ => 0))), (q_3, Sum.inl (cy_4, 100, Sum.inl (fun _ => 0))), (q_5, Sum.inl (cy_6, 100, Sum.inl (fun _ => 0))), (q_7, Sum.inl (cy_8, 100, Sum.inl (fun _ => 0)))] := hD
  refine lv_aload_n hx hb dX6_init_36 rfl (lv_at hl 0 rfl) ?_
  refine lv_bipush (v := 100) hx hb dX6_init_37 (by decide) ?_
  refine va_newa (atype := .boolean) (a0 := (100, .inl (fun _ => 0))) (N' := 100) hx hb (hts _ kw_1_177) (ty := .boolean) rfl hK hP hD hS hA (fun _ => rfl) (by decide) (by decide) (by decide) (Nat.le_of_ble_eq_true rfl) (Nat.le_of_ble_eq_true rfl) dX6_init_39 (fun q_9 cy_10 H hK hP hD hS => ?_)
  have hK : va_K D vwCl [(cy_2, .int), (cy_4, .int), (cy_6, .int), (cy_8, .int), (cy_10, .boolean)] s := hK
  have hP : va_P D vwCl [(h0, Sum.inr (5, [Value.int 0, Value.int 0, Value.ref q_1, Value.ref q_3, Value.ref q_5, Value.ref q_7, Value.null, Value.null])), (q_1, Sum.inl (cy_2, 100, Sum.inl (fun _ => 0))), (q_3, Sum.inl (cy_4, 100, Sum.inl (fun _ => 0))), (q_5, Sum.inl (cy_6, 100, Sum.inl (fun _ => 0))), (q_7, Sum.inl (cy_8, 100, Sum.inl (fun _ => 0))), (q_9, Sum.inl (cy_10, 100, Sum.inl (fun _ => 0)))] H := hP
  have hD : va_D A [(h0, Sum.inr (5, [Value.int 0, Value.int 0, Value.ref q_1, Value.ref q_3, Value.ref q_5, Value.ref q_7, Value.null, Value.null])), (q_1, Sum.inl (cy_2, 100, Sum.inl (fun _ => 0))), (q_3, Sum.inl (cy_4, 100, Sum.inl (fun _ => 0))), (q_5, Sum.inl (cy_6, 100, Sum.inl (fun _ => 0))), (q_7, Sum.inl (cy_8, 100, Sum.inl (fun _ => 0))), (q_9, Sum.inl (cy_10, 100, Sum.inl (fun _ => 0)))] := hD
  refine W.widen (k := 5) (n := 500) (by decide) (by decide) ?_
  refine va_putF (D := D) (ci := 5) (v := Value.ref q_9) (ty := .array .boolean) (C := RX6) (T := TX6) (N := 8) hx hb hts inG_X6 tyX6 tyX6_ok nmX6 hown hK hP hD hS 0 rfl rfl 6 (by decide) (hts _ kw_1_157) (fun _ h9 => h9) rfl hin rfl (by decide +kernel) rfl rfl (Nat.le_of_ble_eq_true rfl) dX6_init_41 (fun H locs hP hD hS => ?_)
  have hP : va_P D vwCl [(h0, Sum.inr (5, [Value.int 0, Value.int 0, Value.ref q_1, Value.ref q_3, Value.ref q_5, Value.ref q_7, Value.ref q_9, Value.null])), (q_1, Sum.inl (cy_2, 100, Sum.inl (fun _ => 0))), (q_3, Sum.inl (cy_4, 100, Sum.inl (fun _ => 0))), (q_5, Sum.inl (cy_6, 100, Sum.inl (fun _ => 0))), (q_7, Sum.inl (cy_8, 100, Sum.inl (fun _ => 0))), (q_9, Sum.inl (cy_10, 100, Sum.inl (fun _ => 0)))] H := hP
  have hD : va_D A [(h0, Sum.inr (5, [Value.int 0, Value.int 0, Value.ref q_1, Value.ref q_3, Value.ref q_5, Value.ref q_7, Value.ref q_9, Value.null])), (q_1, Sum.inl (cy_2, 100, Sum.inl (fun _ => 0))), (q_3, Sum.inl (cy_4, 100, Sum.inl (fun _ => 0))), (q_5, Sum.inl (cy_6, 100, Sum.inl (fun _ => 0))), (q_7, Sum.inl (cy_8, 100, Sum.inl (fun _ => 0))), (q_9, Sum.inl (cy_10, 100, Sum.inl (fun _ => 0)))] := hD
  refine lv_aload_n hx hb dX6_init_44 rfl (lv_at hl 0 rfl) ?_
  refine lv_bipush (v := 100) hx hb dX6_init_45 (by decide) ?_
  refine va_newa (atype := .boolean) (a0 := (100, .inl (fun _ => 0))) (N' := 100) hx hb (hts _ kw_1_177) (ty := .boolean) rfl hK hP hD hS hA (fun _ => rfl) (by decide) (by decide) (by decide) (Nat.le_of_ble_eq_true rfl) (Nat.le_of_ble_eq_true rfl) dX6_init_47 (fun q_11 cy_12 H hK hP hD hS => ?_)
  have hK : va_K D vwCl [(cy_2, .int), (cy_4, .int), (cy_6, .int), (cy_8, .int), (cy_10, .boolean), (cy_12, .boolean)] s := hK
  have hP : va_P D vwCl [(h0, Sum.inr (5, [Value.int 0, Value.int 0, Value.ref q_1, Value.ref q_3, Value.ref q_5, Value.ref q_7, Value.ref q_9, Value.null])), (q_1, Sum.inl (cy_2, 100, Sum.inl (fun _ => 0))), (q_3, Sum.inl (cy_4, 100, Sum.inl (fun _ => 0))), (q_5, Sum.inl (cy_6, 100, Sum.inl (fun _ => 0))), (q_7, Sum.inl (cy_8, 100, Sum.inl (fun _ => 0))), (q_9, Sum.inl (cy_10, 100, Sum.inl (fun _ => 0))), (q_11, Sum.inl (cy_12, 100, Sum.inl (fun _ => 0)))] H := hP
  have hD : va_D A [(h0, Sum.inr (5, [Value.int 0, Value.int 0, Value.ref q_1, Value.ref q_3, Value.ref q_5, Value.ref q_7, Value.ref q_9, Value.null])), (q_1, Sum.inl (cy_2, 100, Sum.inl (fun _ => 0))), (q_3, Sum.inl (cy_4, 100, Sum.inl (fun _ => 0))), (q_5, Sum.inl (cy_6, 100, Sum.inl (fun _ => 0))), (q_7, Sum.inl (cy_8, 100, Sum.inl (fun _ => 0))), (q_9, Sum.inl (cy_10, 100, Sum.inl (fun _ => 0))), (q_11, Sum.inl (cy_12, 100, Sum.inl (fun _ => 0)))] := hD
  refine W.widen (k := 6) (n := 600) (by decide) (by decide) ?_
  refine va_putF (D := D) (ci := 5) (v := Value.ref q_11) (ty := .array .boolean) (C := RX6) (T := TX6) (N := 8) hx hb hts inG_X6 tyX6 tyX6_ok nmX6 hown hK hP hD hS 0 rfl rfl 7 (by decide) (hts _ kw_1_159) (fun _ h9 => h9) rfl hin rfl (by decide +kernel) rfl rfl (Nat.le_of_ble_eq_true rfl) dX6_init_49 (fun H locs hP hD hS => ?_)
  have hP : va_P D vwCl [(h0, Sum.inr (5, [Value.int 0, Value.int 0, Value.ref q_1, Value.ref q_3, Value.ref q_5, Value.ref q_7, Value.ref q_9, Value.ref q_11])), (q_1, Sum.inl (cy_2, 100, Sum.inl (fun _ => 0))), (q_3, Sum.inl (cy_4, 100, Sum.inl (fun _ => 0))), (q_5, Sum.inl (cy_6, 100, Sum.inl (fun _ => 0))), (q_7, Sum.inl (cy_8, 100, Sum.inl (fun _ => 0))), (q_9, Sum.inl (cy_10, 100, Sum.inl (fun _ => 0))), (q_11, Sum.inl (cy_12, 100, Sum.inl (fun _ => 0)))] H := hP
  have hD : va_D A [(h0, Sum.inr (5, [Value.int 0, Value.int 0, Value.ref q_1, Value.ref q_3, Value.ref q_5, Value.ref q_7, Value.ref q_9, Value.ref q_11])), (q_1, Sum.inl (cy_2, 100, Sum.inl (fun _ => 0))), (q_3, Sum.inl (cy_4, 100, Sum.inl (fun _ => 0))), (q_5, Sum.inl (cy_6, 100, Sum.inl (fun _ => 0))), (q_7, Sum.inl (cy_8, 100, Sum.inl (fun _ => 0))), (q_9, Sum.inl (cy_10, 100, Sum.inl (fun _ => 0))), (q_11, Sum.inl (cy_12, 100, Sum.inl (fun _ => 0)))] := hD
  refine lv_aload_n hx hb dX6_init_52 rfl (lv_at hl 0 rfl) ?_
  refine lv_iconst (v := 5) hx hb dX6_init_53 (by decide) ?_
  refine lv_iconst (v := 5) hx hb dX6_init_54 (by decide) ?_
  refine mc_Vv (rest := []) (wr := []) F hK hP hD hS hA (c_River_renew l D h0 q_1 q_3 q_5 q_7 q_9 q_11 cy_2 cy_4 cy_6 cy_8 cy_10 cy_12 (fun _ => 0) (fun _ => 0) (fun _ => 0) (fun _ => 0) (fun _ => 0) (fun _ => 0) 0 0 5 5 ) ⟨gk_X6_31.1, gk_X6_31.2, Nat.le_of_ble_eq_true rfl, Nat.le_of_ble_eq_true rfl⟩ [0, 1, 2, 3, 4, 5, 6] [] [0, 1, 2, 3, 4, 5] ⟨rfl, rfl, rfl, rfl, by decide⟩ rfl xT_move (fun _ _ _ => trivial) 0 rfl rfl rfl hl.1 rfl (Nat.le_of_ble_eq_true rfl) dX6_init_55 ⟨Nat.le_of_ble_eq_true rfl, Nat.le_of_ble_eq_true rfl⟩ (fun _ H locs hw hK1 hP hD hS => ?_)
  have hP : va_P D vwCl [(h0, Sum.inr (5, [Value.int 5, Value.int 5, Value.ref q_1, Value.ref q_3, Value.ref q_5, Value.ref q_7, Value.ref q_9, Value.ref q_11])), (q_1, Sum.inl (cy_2, 100, Sum.inl (fun _ => 0))), (q_3, Sum.inl (cy_4, 100, Sum.inl (fun _ => 0))), (q_5, Sum.inl (cy_6, 100, Sum.inl (fun _ => 0))), (q_7, Sum.inl (cy_8, 100, Sum.inl (fun _ => (-1)))), (q_9, Sum.inl (cy_10, 100, Sum.inl (fun _ => 0))), (q_11, Sum.inl (cy_12, 100, Sum.inl ((fun _ => 0))))] H := hP
  have hD : va_D A [(h0, Sum.inr (5, [Value.int 5, Value.int 5, Value.ref q_1, Value.ref q_3, Value.ref q_5, Value.ref q_7, Value.ref q_9, Value.ref q_11])), (q_1, Sum.inl (cy_2, 100, Sum.inl (fun _ => 0))), (q_3, Sum.inl (cy_4, 100, Sum.inl (fun _ => 0))), (q_5, Sum.inl (cy_6, 100, Sum.inl (fun _ => 0))), (q_7, Sum.inl (cy_8, 100, Sum.inl (fun _ => (-1)))), (q_9, Sum.inl (cy_10, 100, Sum.inl (fun _ => 0))), (q_11, Sum.inl (cy_12, 100, Sum.inl ((fun _ => 0))))] := hD
  have hP9 := hP.sub (ws' := [(h0, Sum.inr (5, [Value.int 5, Value.int 5, Value.ref q_1, Value.ref q_3, Value.ref q_5, Value.ref q_7, Value.ref q_9, Value.ref q_11])), (q_1, Sum.inl (cy_2, 100, Sum.inl (fun _ => 0))), (q_3, Sum.inl (cy_4, 100, Sum.inl (fun _ => 0))), (q_5, Sum.inl (cy_6, 100, Sum.inl (fun _ => 0))), (q_7, Sum.inl (cy_8, 100, Sum.inl (fun _ => (-1)))), (q_9, Sum.inl (cy_10, 100, Sum.inl (fun _ => 0))), (q_11, Sum.inl (cy_12, 100, Sum.inl (fun _ => 0)))]) [0, 1, 2, 3, 4, 5, 6] rfl
  have hD9 := hD.sub (ws' := [(h0, Sum.inr (5, [Value.int 5, Value.int 5, Value.ref q_1, Value.ref q_3, Value.ref q_5, Value.ref q_7, Value.ref q_9, Value.ref q_11])), (q_1, Sum.inl (cy_2, 100, Sum.inl (fun _ => 0))), (q_3, Sum.inl (cy_4, 100, Sum.inl (fun _ => 0))), (q_5, Sum.inl (cy_6, 100, Sum.inl (fun _ => 0))), (q_7, Sum.inl (cy_8, 100, Sum.inl (fun _ => (-1)))), (q_9, Sum.inl (cy_10, 100, Sum.inl (fun _ => 0))), (q_11, Sum.inl (cy_12, 100, Sum.inl (fun _ => 0)))]) [0, 1, 2, 3, 4, 5, 6] (by decide) rfl
  have hK9 := hK.sub (tys' := [(cy_2, .int), (cy_4, .int), (cy_6, .int), (cy_8, .int), (cy_10, .boolean), (cy_12, .boolean)]) [0, 1, 2, 3, 4, 5] rfl
  refine W.widen (k := 6) (n := 600) (by decide) (by decide) ?_
  exact W.vret hx hb hr (fun t ht hW => ⟨⟨(q_1, q_3, q_5, q_7, q_9, q_11, cy_2, cy_4, cy_6, cy_8, cy_10, cy_12), rfl, trivial, by rw [ht]; exact hP9, va_K.moved hW.alike hK9, hD9⟩, hS.F ht⟩) hS.2.2 dX6_init_58
