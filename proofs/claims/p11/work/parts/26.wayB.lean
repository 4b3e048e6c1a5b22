theorem dX8_measure_7 : decode cX8_measure 7 = .ok (.iload_n 2, 1) := by decide +kernel
theorem dX8_measure_8 : decode cX8_measure 8 = .ok (.aload_n 1, 1) := by decide +kernel
theorem kw_1_228 : Cond.fieldLink RX8 71 "IceFair$Fair" "boothCount" "I" ∈ gw := gw_t1 (List.mem_of_getElem? (i := 228) (by decide +kernel)) (by decide +kernel)
theorem dX8_measure_9 : decode cX8_measure 9 = .ok (.getfield 71, 3) := by decide +kernel
theorem dX8_measure_12 : decode cX8_measure 12 = .ok (.if_icmp .ge 52, 3) := by decide +kernel
theorem dX8_measure_15 : decode cX8_measure 15 = .ok (.iload_n 2, 1) := by decide +kernel
theorem dX8_measure_16 : decode cX8_measure 16 = .ok (.bipush 10, 2) := by decide +kernel
theorem dX8_measure_18 : decode cX8_measure 18 = .ok (.if_icmp .ge 46, 3) := by decide +kernel
theorem dX8_measure_21 : decode cX8_measure 21 = .ok (.aload_n 1, 1) := by decide +kernel
theorem kw_1_225 : Cond.fieldLink RX8 91 "IceFair$Fair" "booths" "[LIceFair$Booth;" ∈ gw := gw_t1 (List.mem_of_getElem? (i := 225) (by decide +kernel)) (by decide +kernel)
theorem dX8_measure_22 : decode cX8_measure 22 = .ok (.getfield 91, 3) := by decide +kernel
theorem dX8_measure_25 : decode cX8_measure 25 = .ok (.iload_n 2, 1) := by decide +kernel
theorem dX8_measure_26 : decode cX8_measure 26 = .ok (.aaload, 1) := by decide +kernel
theorem kw_1_190 : Cond.fieldLink RX8 24 "IceFair$Booth" "state" "I" ∈ gw := gw_t1 (List.mem_of_getElem? (i := 190) (by decide +kernel)) (by decide +kernel)
theorem dX8_measure_27 : decode cX8_measure 27 = .ok (.getfield 24, 3) := by decide +kernel
theorem dX8_measure_30 : decode cX8_measure 30 = .ok (.iconst 1, 1) := by decide +kernel
theorem dX8_measure_31 : decode cX8_measure 31 = .ok (.if_icmp .ne 27, 3) := by decide +kernel
theorem dX8_measure_58 : decode cX8_measure 58 = .ok (.iinc 2 1, 3) := by decide +kernel
theorem dX8_measure_61 : decode cX8_measure 61 = .ok (.goto (-54), 3) := by decide +kernel
theorem dX8_measure_34 : decode cX8_measure 34 = .ok (.aload_n 1, 1) := by decide +kernel
theorem dX8_measure_35 : decode cX8_measure 35 = .ok (.getfield 91, 3) := by decide +kernel
theorem dX8_measure_38 : decode cX8_measure 38 = .ok (.iload_n 2, 1) := by decide +kernel
theorem dX8_measure_39 : decode cX8_measure 39 = .ok (.aaload, 1) := by decide +kernel
theorem kw_1_189 : Cond.fieldLink RX8 95 "IceFair$Booth" "crowd" "I" ∈ gw := gw_t1 (List.mem_of_getElem? (i := 189) (by decide +kernel)) (by decide +kernel)
theorem dX8_measure_40 : decode cX8_measure 40 = .ok (.getfield 95, 3) := by decide +kernel
theorem dX8_measure_43 : decode cX8_measure 43 = .ok (.ifCond .le 15, 3) := by decide +kernel
theorem dX8_measure_46 : decode cX8_measure 46 = .ok (.aload_n 0, 1) := by decide +kernel
theorem dX8_measure_47 : decode cX8_measure 47 = .ok (.dup, 1) := by decide +kernel
theorem kw_2_53 : Cond.fieldLink RX8 74 "IceFair$WayOff" "crowded" "I" ∈ gw := gw_t2 (List.mem_of_getElem? (i := 53) (by decide +kernel)) (by decide +kernel)
theorem dX8_measure_48 : decode cX8_measure 48 = .ok (.getfield 74, 3) := by decide +kernel
theorem dX8_measure_51 : decode cX8_measure 51 = .ok (.iconst 1, 1) := by decide +kernel
theorem dX8_measure_52 : decode cX8_measure 52 = .ok (.iload_n 2, 1) := by decide +kernel
theorem dX8_measure_53 : decode cX8_measure 53 = .ok (.ishl, 1) := by decide +kernel
theorem dX8_measure_54 : decode cX8_measure 54 = .ok (.ior, 1) := by decide +kernel
theorem dX8_measure_55 : decode cX8_measure 55 = .ok (.putfield 74, 3) := by decide +kernel
set_option maxHeartbeats 4000000 in
set_option maxRecDepth 100000 in
theorem lp_meas1 {p : Program} {l : Launch} {e : Env} {s : State} {m : MethodId} {args : Array Value} {below : List Frame} {meth : Method} {c : Code} {Q : State → Prop} {A : Nat → Prop} {D : va_G} (F : mFix p s m args c cX8_measure 5 RX8) (hA : ∀ q, s.heap.size ≤ q → A q) (bo : Nat → Nat) (B1 : Nat → Int32) (B2 : Nat → Int32) (B3 : Nat → Int32) (B4 : Nat → Int32) (B5 : Nat → Int32) (B6 : Nat → Int32) (B7 : Nat → Int32) (h0 : Nat) (fa : Nat) (cu : Nat) (rv : Nat) (bt : Nat) (wy1 : Nat) (wy2 : Nat) (wy3 : Nat) (wy4 : Nat) (wc1 : ClassId) (wc2 : ClassId) (wc3 : ClassId) (bc9 : ClassId) (bc : Nat) (ho : Int32) (fe : Int32) (cu1 : Nat) (cu2 : Nat) (cu3 : Nat) (cu4 : Nat) (cc2 : ClassId) (cc3 : ClassId) (cf2 : Nat → Int32) (cf3 : Nat → Int32) (sc : Int32) (to : Int32) (q1 : Nat) (q2 : Nat) (q3 : Nat) (q4 : Nat) (q5 : Nat) (q6 : Nat) (cy1 : ClassId) (cy5 : ClassId) (f1 : Nat → Int32) (f5 : Nat → Int32) (w : Nat) (h : Nat) (s1 : Nat → Int32) (s2 : Nat → Int32) (s3 : Nat → Int32) (qd : Int32) (hK : va_K D vwCl [(wc1, .int), (wc2, .int), (wc3, .int), (bc9, .object RX0), (cc2, .int), (cc3, .int), (cy1, .int), (cy5, .boolean)] s)
    (kx_64 : ∀ (cr1 : Int32), ∀ (H : Heap) (locs : List Loc), va_P D vwCl (bL bo B1 B2 B3 B4 B5 B6 B7 ++ ([(h0, Sum.inr (7, [Value.ref wy1, Value.ref wy2, Value.int qd, Value.ref wy3, Value.ref wy4, Value.int cr1])), (wy1, Sum.inl (wc1, 100, Sum.inl s1)), (wy2, Sum.inl (wc2, 100, Sum.inl s2)), (wy3, Sum.inl (wc3, 40, Sum.inl s3)), (fa, Sum.inr (3, [Value.ref cu, Value.ref rv, Value.ref bt, Value.int (nI bc), Value.int ho, Value.int fe])), (bt, Sum.inl (bc9, 10, Sum.inr (Sum.inr (Sum.inr (Sum.inr (fun j => some (bo j))))))), (cu, Sum.inr (1, [Value.ref cu1, Value.ref cu2, Value.ref cu3, Value.ref cu4, Value.int sc, Value.int to])), (cu2, Sum.inl (cc2, 4, Sum.inl cf2)), (cu3, Sum.inl (cc3, 4, Sum.inl cf3)), (rv, Sum.inr (5, [Value.int (nI w), Value.int (nI h), Value.ref q1, Value.ref q2, Value.ref q3, Value.ref q4, Value.ref q5, Value.ref q6])), (q1, Sum.inl (cy1, 100, Sum.inl f1)), (q5, Sum.inl (cy5, 100, Sum.inl f5))] : va_W)) H → va_D A (bL bo B1 B2 B3 B4 B5 B6 B7 ++ ([(h0, Sum.inr (7, [Value.ref wy1, Value.ref wy2, Value.int qd, Value.ref wy3, Value.ref wy4, Value.int cr1])), (wy1, Sum.inl (wc1, 100, Sum.inl s1)), (wy2, Sum.inl (wc2, 100, Sum.inl s2)), (wy3, Sum.inl (wc3, 40, Sum.inl s3)), (fa, Sum.inr (3, [Value.ref cu, Value.ref rv, Value.ref bt, Value.int (nI bc), Value.int ho, Value.int fe])), (bt, Sum.inl (bc9, 10, Sum.inr (Sum.inr (Sum.inr (Sum.inr (fun j => some (bo j))))))), (cu, Sum.inr (1, [Value.ref cu1, Value.ref cu2, Value.ref cu3, Value.ref cu4, Value.int sc, Value.int to])), (cu2, Sum.inl (cc2, 4, Sum.inl cf2)), (cu3, Sum.inl (cc3, 4, Sum.inl cf3)), (rv, Sum.inr (5, [Value.int (nI w), Value.int (nI h), Value.ref q1, Value.ref q2, Value.ref q3, Value.ref q4, Value.ref q5, Value.ref q6])), (q1, Sum.inl (cy1, 100, Sum.inl f1)), (q5, Sum.inl (cy5, 100, Sum.inl f5))] : va_W)) → va_S A s.heap H locs → ∀ ls : Array Slot, lv_has ls 5 [(0, Value.ref h0), (1, Value.ref fa)] → W p l e ({ frames := 4, cells := 0, slots := 0, locals := 105 }) s m args below meth c H locs 0 0 Q (F0 m 64 ls [])) :
    ∀ n : Nat, ∀ (cr1 : Int32) (i : Nat), (i ≤ bc) → (bc ≤ 10) → (bc - i) < n → ∀ (H : Heap) (locs : List Loc), va_P D vwCl (bL bo B1 B2 B3 B4 B5 B6 B7 ++ ([(h0, Sum.inr (7, [Value.ref wy1, Value.ref wy2, Value.int qd, Value.ref wy3, Value.ref wy4, Value.int cr1])), (wy1, Sum.inl (wc1, 100, Sum.inl s1)), (wy2, Sum.inl (wc2, 100, Sum.inl s2)), (wy3, Sum.inl (wc3, 40, Sum.inl s3)), (fa, Sum.inr (3, [Value.ref cu, Value.ref rv, Value.ref bt, Value.int (nI bc), Value.int ho, Value.int fe])), (bt, Sum.inl (bc9, 10, Sum.inr (Sum.inr (Sum.inr (Sum.inr (fun j => some (bo j))))))), (cu, Sum.inr (1, [Value.ref cu1, Value.ref cu2, Value.ref cu3, Value.ref cu4, Value.int sc, Value.int to])), (cu2, Sum.inl (cc2, 4, Sum.inl cf2)), (cu3, Sum.inl (cc3, 4, Sum.inl cf3)), (rv, Sum.inr (5, [Value.int (nI w), Value.int (nI h), Value.ref q1, Value.ref q2, Value.ref q3, Value.ref q4, Value.ref q5, Value.ref q6])), (q1, Sum.inl (cy1, 100, Sum.inl f1)), (q5, Sum.inl (cy5, 100, Sum.inl f5))] : va_W)) H → va_D A (bL bo B1 B2 B3 B4 B5 B6 B7 ++ ([(h0, Sum.inr (7, [Value.ref wy1, Value.ref wy2, Value.int qd, Value.ref wy3, Value.ref wy4, Value.int cr1])), (wy1, Sum.inl (wc1, 100, Sum.inl s1)), (wy2, Sum.inl (wc2, 100, Sum.inl s2)), (wy3, Sum.inl (wc3, 40, Sum.inl s3)), (fa, Sum.inr (3, [Value.ref cu, Value.ref rv, Value.ref bt, Value.int (nI bc), Value.int ho, Value.int fe])), (bt, Sum.inl (bc9, 10, Sum.inr (Sum.inr (Sum.inr (Sum.inr (fun j => some (bo j))))))), (cu, Sum.inr (1, [Value.ref cu1, Value.ref cu2, Value.ref cu3, Value.ref cu4, Value.int sc, Value.int to])), (cu2, Sum.inl (cc2, 4, Sum.inl cf2)), (cu3, Sum.inl (cc3, 4, Sum.inl cf3)), (rv, Sum.inr (5, [Value.int (nI w), Value.int (nI h), Value.ref q1, Value.ref q2, Value.ref q3, Value.ref q4, Value.ref q5, Value.ref q6])), (q1, Sum.inl (cy1, 100, Sum.inl f1)), (q5, Sum.inl (cy5, 100, Sum.inl f5))] : va_W)) → va_S A s.heap H locs → ∀ ls : Array Slot, lv_has ls 5 [(0, Value.ref h0), (1, Value.ref fa), (2, Value.int (nI i))] → W p l e ({ frames := 4, cells := 0, slots := 0, locals := 105 }) s m args below meth c H locs 0 0 Q (F0 m 7 ls []) := by
  intro n
  induction n with
  | zero => intro cr1 i hi hbc hn; exact absurd hn (Nat.not_lt_zero _)
  | succ n ih =>
    intro cr1 i hi hbc hn H locs hP hD hS ls hl
    obtain ⟨hx, hb, hml, hown, hts⟩ := id F
    refine lv_iload_n hx hb dX8_measure_7 rfl (lv_at hl 2 rfl) ?_
    refine lv_aload_n hx hb dX8_measure_8 rfl (lv_at hl 1 rfl) ?_
    refine va_get (D := D) (ci := 3) (v := Value.int (nI bc)) (C := RX3) (T := TX3) (N := 6) hx hb hts inG_X3 hown hK hP 14 rfl rfl 3 (by decide) (hts _ kw_1_228) (fun _ h9 => h9) rfl dX8_measure_9 ?_
    refine lv_icmp_ge (tgt := 64) hx hb dX8_measure_12 (by decide) (fun c_1 => ?_) (fun c_1 => ?_)
    · skip
      have c_1n : bc ≤ i := (nI_leI (by omega) (by omega)).mp c_1
      have c_1 := Int32.not_lt.mpr c_1
      exact kx_64 cr1  H locs (hP.sub [0, 1, 2, 3, 4, 5, 6, 7, 8, 9, 10, 11, 12, 13, 14, 15, 16, 17, 18, 19, 20, 21] rfl) (hD.sub [0, 1, 2, 3, 4, 5, 6, 7, 8, 9, 10, 11, 12, 13, 14, 15, 16, 17, 18, 19, 20, 21] (by decide) rfl) hS ls (lv_sub hl [0, 1] rfl)
    · skip
      have c_1n : i < bc := nb_le (by omega) (by omega) c_1
      have c_1 := Int32.not_le.mp c_1
      refine lv_iload_n hx hb dX8_measure_15 rfl (lv_at hl 2 rfl) ?_
      refine lv_bipush (v := 10) hx hb dX8_measure_16 (by decide) ?_
      refine lv_icmp_ge (tgt := 64) hx hb dX8_measure_18 (by decide) (fun c_2 => ?_) (fun c_2 => ?_)
      · skip
        have c_2n : 10 ≤ i := (nI_leI (by omega) (by omega)).mp c_2
        have c_2 := Int32.not_lt.mpr c_2
        exact kx_64 cr1  H locs (hP.sub [0, 1, 2, 3, 4, 5, 6, 7, 8, 9, 10, 11, 12, 13, 14, 15, 16, 17, 18, 19, 20, 21] rfl) (hD.sub [0, 1, 2, 3, 4, 5, 6, 7, 8, 9, 10, 11, 12, 13, 14, 15, 16, 17, 18, 19, 20, 21] (by decide) rfl) hS ls (lv_sub hl [0, 1] rfl)
      · skip
        have c_2n : i < 10 := nb_le (by omega) (by omega) c_2
        have c_2 := Int32.not_le.mp c_2
        refine lv_aload_n hx hb dX8_measure_21 rfl (lv_at hl 1 rfl) ?_
        refine va_get (D := D) (ci := 3) (v := Value.ref bt) (C := RX3) (T := TX3) (N := 6) hx hb hts inG_X3 hown hK hP 14 rfl rfl 2 (by decide) (hts _ kw_1_225) (fun _ h9 => h9) rfl dX8_measure_22 ?_
        refine lv_iload_n hx hb dX8_measure_25 rfl (lv_at hl 2 rfl) ?_
        refine m_aald hx hb hK hP 15 3 rfl rfl i rfl (by omega) (by decide) dX8_measure_26 ?_
        refine W.eq (g2 := F0 m 27 ls [Value.ref (bo i)]) rfl ?_
        refine va_get (D := D) (ci := 0) (v := .int (B5 i)) (C := RX0) (T := TX0) (N := 7) hx hb hts inG_X0 hown hK hP i (bL_get (by omega)) rfl 4 (by decide) (hts _ kw_1_190) (fun _ h9 => h9) rfl dX8_measure_27 ?_
        refine lv_iconst (v := 1) hx hb dX8_measure_30 (by decide) ?_
        refine lv_icmp_ne (tgt := 58) hx hb dX8_measure_31 (by decide) (fun c_3 => ?_) (fun c_3 => ?_)
        · skip
          refine lv_iinc (v := nI (i + 1)) (lv' := [(2, Value.int (nI (i + 1))), (0, Value.ref h0), (1, Value.ref fa)]) hx hb dX8_measure_58 hl (k := 2) rfl (nI_add i 1) (by decide) rfl (fun ls hl => ?_)
          refine lv_goto (tgt := 7) hx hb dX8_measure_61 (by decide) ?_
          exact ih cr1 (i + 1) (by omega) (by omega) (by omega) H locs (hP.sub [0, 1, 2, 3, 4, 5, 6, 7, 8, 9, 10, 11, 12, 13, 14, 15, 16, 17, 18, 19, 20, 21] rfl) (hD.sub [0, 1, 2, 3, 4, 5, 6, 7, 8, 9, 10, 11, 12, 13, 14, 15, 16, 17, 18, 19, 20, 21] (by decide) rfl) hS ls (lv_sub hl [1, 2, 0] rfl)
        · skip
          refine lv_aload_n hx hb dX8_measure_34 rfl (lv_at hl 1 rfl) ?_
          refine va_get (D := D) (ci := 3) (v := Value.ref bt) (C := RX3) (T := TX3) (N := 6) hx hb hts inG_X3 hown hK hP 14 rfl rfl 2 (by decide) (hts _ kw_1_225) (fun _ h9 => h9) rfl dX8_measure_35 ?_
          refine lv_iload_n hx hb dX8_measure_38 rfl (lv_at hl 2 rfl) ?_
          refine m_aald hx hb hK hP 15 3 rfl rfl i rfl (by omega) (by decide) dX8_measure_39 ?_
          refine W.eq (g2 := F0 m 40 ls [Value.ref (bo i)]) rfl ?_
          refine va_get (D := D) (ci := 0) (v := .int (B4 i)) (C := RX0) (T := TX0) (N := 7) hx hb hts inG_X0 hown hK hP i (bL_get (by omega)) rfl 3 (by decide) (hts _ kw_1_189) (fun _ h9 => h9) rfl dX8_measure_40 ?_
          refine lv_if_le (tgt := 58) hx hb dX8_measure_43 (by decide) (fun c_4 => ?_) (fun c_4 => ?_)
          · skip
            have c_4 := Int32.not_lt.mpr c_4
            refine lv_iinc (v := nI (i + 1)) (lv' := [(2, Value.int (nI (i + 1))), (0, Value.ref h0), (1, Value.ref fa)]) hx hb dX8_measure_58 hl (k := 2) rfl (nI_add i 1) (by decide) rfl (fun ls hl => ?_)
            refine lv_goto (tgt := 7) hx hb dX8_measure_61 (by decide) ?_
            exact ih cr1 (i + 1) (by omega) (by omega) (by omega) H locs (hP.sub [0, 1, 2, 3, 4, 5, 6, 7, 8, 9, 10, 11, 12, 13, 14, 15, 16, 17, 18, 19, 20, 21] rfl) (hD.sub [0, 1, 2, 3, 4, 5, 6, 7, 8, 9, 10, 11, 12, 13, 14, 15, 16, 17, 18, 19, 20, 21] (by decide) rfl) hS ls (lv_sub hl [1, 2, 0] rfl)
          · skip
            have c_4 := Int32.not_le.mp c_4
            refine lv_aload_n hx hb dX8_measure_46 rfl (lv_at hl 0 rfl) ?_
            refine lv_dup hx hb dX8_measure_47 rfl ?_
            refine va_get (D := D) (ci := 7) (v := Value.int cr1) (C := RX8) (T := TX8) (N := 6) hx hb hts inG_X8 hown hK hP 10 rfl rfl 5 (by decide) (hts _ kw_2_53) (fun _ h9 => h9) rfl dX8_measure_48 ?_
            refine lv_iconst (v := 1) hx hb dX8_measure_51 (by decide) ?_
            refine lv_iload_n hx hb dX8_measure_52 rfl (lv_at hl 2 rfl) ?_
            refine lv_ishl hx hb dX8_measure_53 ?_
            refine lv_topi (fun z_5 ez_5 => ?_)
            refine lv_ior hx hb dX8_measure_54 ?_
            refine lv_topi (fun z_6 ez_6 => ?_)
            refine va_put (D := D) (ci := 7) (v := Value.int z_6) (ty := .int) (C := RX8) (T := TX8) (N := 6) hx hb hts inG_X8 tyX8 tyX8_ok nmX8 hown hK hP hD hS 10 rfl rfl 5 (by decide) (hts _ kw_2_53) (fun _ h9 => h9) rfl (by decide +kernel) rfl rfl (Nat.le_of_ble_eq_true rfl) dX8_measure_55 (fun H locs hP hD hS => ?_)
            have hP : va_P D vwCl (bL bo B1 B2 B3 B4 B5 B6 B7 ++ ([(h0, Sum.inr (7, [Value.ref wy1, Value.ref wy2, Value.int qd, Value.ref wy3, Value.ref wy4, Value.int z_6])), (wy1, Sum.inl (wc1, 100, Sum.inl s1)), (wy2, Sum.inl (wc2, 100, Sum.inl s2)), (wy3, Sum.inl (wc3, 40, Sum.inl s3)), (fa, Sum.inr (3, [Value.ref cu, Value.ref rv, Value.ref bt, Value.int (nI bc), Value.int ho, Value.int fe])), (bt, Sum.inl (bc9, 10, Sum.inr (Sum.inr (Sum.inr (Sum.inr (fun j => some (bo j))))))), (cu, Sum.inr (1, [Value.ref cu1, Value.ref cu2, Value.ref cu3, Value.ref cu4, Value.int sc, Value.int to])), (cu2, Sum.inl (cc2, 4, Sum.inl cf2)), (cu3, Sum.inl (cc3, 4, Sum.inl cf3)), (rv, Sum.inr (5, [Value.int (nI w), Value.int (nI h), Value.ref q1, Value.ref q2, Value.ref q3, Value.ref q4, Value.ref q5, Value.ref q6])), (q1, Sum.inl (cy1, 100, Sum.inl f1)), (q5, Sum.inl (cy5, 100, Sum.inl f5))] : va_W)) H := hP
            have hD : va_D A (bL bo B1 B2 B3 B4 B5 B6 B7 ++ ([(h0, Sum.inr (7, [Value.ref wy1, Value.ref wy2, Value.int qd, Value.ref wy3, Value.ref wy4, Value.int z_6])), (wy1, Sum.inl (wc1, 100, Sum.inl s1)), (wy2, Sum.inl (wc2, 100, Sum.inl s2)), (wy3, Sum.inl (wc3, 40, Sum.inl s3)), (fa, Sum.inr (3, [Value.ref cu, Value.ref rv, Value.ref bt, Value.int (nI bc), Value.int ho, Value.int fe])), (bt, Sum.inl (bc9, 10, Sum.inr (Sum.inr (Sum.inr (Sum.inr (fun j => some (bo j))))))), (cu, Sum.inr (1, [Value.ref cu1, Value.ref cu2, Value.ref cu3, Value.ref cu4, Value.int sc, Value.int to])), (cu2, Sum.inl (cc2, 4, Sum.inl cf2)), (cu3, Sum.inl (cc3, 4, Sum.inl cf3)), (rv, Sum.inr (5, [Value.int (nI w), Value.int (nI h), Value.ref q1, Value.ref q2, Value.ref q3, Value.ref q4, Value.ref q5, Value.ref q6])), (q1, Sum.inl (cy1, 100, Sum.inl f1)), (q5, Sum.inl (cy5, 100, Sum.inl f5))] : va_W)) := hD
            refine lv_iinc (v := nI (i + 1)) (lv' := [(2, Value.int (nI (i + 1))), (0, Value.ref h0), (1, Value.ref fa)]) hx hb dX8_measure_58 hl (k := 2) rfl (nI_add i 1) (by decide) rfl (fun ls hl => ?_)
            refine lv_goto (tgt := 7) hx hb dX8_measure_61 (by decide) ?_
            exact ih z_6 (i + 1) (by omega) (by omega) (by omega) H locs (hP.sub [0, 1, 2, 3, 4, 5, 6, 7, 8, 9, 10, 11, 12, 13, 14, 15, 16, 17, 18, 19, 20, 21] rfl) (hD.sub [0, 1, 2, 3, 4, 5, 6, 7, 8, 9, 10, 11, 12, 13, 14, 15, 16, 17, 18, 19, 20, 21] (by decide) rfl) hS ls (lv_sub hl [1, 2, 0] rfl)
theorem dX8_measure_90 : decode cX8_measure 90 = .ok (.iload_n 3, 1) := by decide +kernel
theorem dX8_measure_91 : decode cX8_measure 91 = .ok (.aload_n 1, 1) := by decide +kernel
theorem dX8_measure_92 : decode cX8_measure 92 = .ok (.getfield 71, 3) := by decide +kernel
theorem dX8_measure_95 : decode cX8_measure 95 = .ok (.if_icmp .ge 51, 3) := by decide +kernel
theorem dX8_measure_98 : decode cX8_measure 98 = .ok (.iload_n 3, 1) := by decide +kernel
theorem dX8_measure_99 : decode cX8_measure 99 = .ok (.bipush 10, 2) := by decide +kernel
theorem dX8_measure_101 : decode cX8_measure 101 = .ok (.if_icmp .ge 45, 3) := by decide +kernel
theorem dX8_measure_104 : decode cX8_measure 104 = .ok (.aload_n 1, 1) := by decide +kernel
theorem dX8_measure_105 : decode cX8_measure 105 = .ok (.getfield 91, 3) := by decide +kernel
theorem dX8_measure_108 : decode cX8_measure 108 = .ok (.iload_n 3, 1) := by decide +kernel
theorem dX8_measure_109 : decode cX8_measure 109 = .ok (.aaload, 1) := by decide +kernel
theorem dX8_measure_110 : decode cX8_measure 110 = .ok (.astore 4, 2) := by decide +kernel
theorem dX8_measure_112 : decode cX8_measure 112 = .ok (.aload_n 0, 1) := by decide +kernel
theorem dX8_measure_113 : decode cX8_measure 113 = .ok (.getfield 18, 3) := by decide +kernel
theorem dX8_measure_116 : decode cX8_measure 116 = .ok (.iload_n 3, 1) := by decide +kernel
theorem dX8_measure_117 : decode cX8_measure 117 = .ok (.iconst 4, 1) := by decide +kernel
theorem dX8_measure_118 : decode cX8_measure 118 = .ok (.imul, 1) := by decide +kernel
theorem dX8_measure_119 : decode cX8_measure 119 = .ok (.iload_n 2, 1) := by decide +kernel
theorem dX8_measure_120 : decode cX8_measure 120 = .ok (.iadd, 1) := by decide +kernel
theorem dX8_measure_121 : decode cX8_measure 121 = .ok (.aload_n 0, 1) := by decide +kernel
theorem dX8_measure_122 : decode cX8_measure 122 = .ok (.aload_n 1, 1) := by decide +kernel
theorem dX8_measure_123 : decode cX8_measure 123 = .ok (.getfield 45, 3) := by decide +kernel
theorem dX8_measure_126 : decode cX8_measure 126 = .ok (.aload 4, 2) := by decide +kernel
theorem kw_1_194 : Cond.fieldLink RX8 49 "IceFair$Booth" "x" "I" ∈ gw := gw_t1 (List.mem_of_getElem? (i := 194) (by decide +kernel)) (by decide +kernel)
theorem dX8_measure_128 : decode cX8_measure 128 = .ok (.getfield 49, 3) := by decide +kernel
theorem dX8_measure_131 : decode cX8_measure 131 = .ok (.aload 4, 2) := by decide +kernel
theorem kw_1_197 : Cond.fieldLink RX8 52 "IceFair$Booth" "y" "I" ∈ gw := gw_t1 (List.mem_of_getElem? (i := 197) (by decide +kernel)) (by decide +kernel)
theorem dX8_measure_133 : decode cX8_measure 133 = .ok (.getfield 52, 3) := by decide +kernel
theorem kw_4_16 : Cond.methodLink RX8 55 yX8_stepsFrom ∈ gw := gw_t4 (List.mem_of_getElem? (i := 16) (by decide +kernel)) (by decide +kernel)
theorem kw_4_18 : Cond.instanceMethod yX8_stepsFrom ∈ gw := gw_t4 (List.mem_of_getElem? (i := 18) (by decide +kernel)) (by decide +kernel)
theorem ks_2_9 : Cond.selects RX8 yX8_stepsFrom yX8_stepsFrom ∈ gw := gw_s (y := yX8_stepsFrom) (n := 6) (List.mem_append_right _ (List.mem_append_left _ (List.mem_of_getElem? (i := 9) (by decide +kernel))))
theorem kw_4_19 : Cond.code yX8_stepsFrom cX8_stepsFrom 5 (some .int) ∈ gw := gw_t4 (List.mem_of_getElem? (i := 19) (by decide +kernel)) (by decide +kernel)
theorem gk_X8_55 : GoodIn gw (wsV RX8 55 RX8 yX8_stepsFrom (.code yX8_stepsFrom cX8_stepsFrom 5 (some .int) :: gw)) ∧ (yX8_stepsFrom.cls = RX8 ∧ yX8_stepsFrom.cls ≠ "java/lang/invoke/MethodHandle" ∧ yX8_stepsFrom.cls ≠ "java/lang/invoke/VarHandle" ∧ (parseMethodDescriptor yX8_stepsFrom.desc).map (fun d => d.parameters.length) = some 3) := ⟨gi_V kw_4_16 kw_4_18 ks_2_9 kw_1_10 kw_4_19, by decide +kernel⟩
theorem dX8_measure_136 : decode cX8_measure 136 = .ok (.invokevirtual 55, 3) := by decide +kernel
theorem dX8_measure_139 : decode cX8_measure 139 = .ok (.iastore, 1) := by decide +kernel
theorem dX8_measure_140 : decode cX8_measure 140 = .ok (.iinc 3 1, 3) := by decide +kernel
theorem dX8_measure_143 : decode cX8_measure 143 = .ok (.goto (-53), 3) := by decide +kernel
set_option maxHeartbeats 4000000 in
set_option maxRecDepth 100000 in
theorem lp_meas3 {p : Program} {l : Launch} {e : Env} {s : State} {m : MethodId} {args : Array Value} {below : List Frame} {meth : Method} {c : Code} {Q : State → Prop} {A : Nat → Prop} {D : va_G} (F : mFix p s m args c cX8_measure 5 RX8) (hA : ∀ q, s.heap.size ≤ q → A q) (bo : Nat → Nat) (B1 : Nat → Int32) (B2 : Nat → Int32) (B3 : Nat → Int32) (B4 : Nat → Int32) (B5 : Nat → Int32) (B6 : Nat → Int32) (B7 : Nat → Int32) (h0 : Nat) (fa : Nat) (cu : Nat) (rv : Nat) (bt : Nat) (wy1 : Nat) (wy2 : Nat) (wy3 : Nat) (wy4 : Nat) (wc1 : ClassId) (wc2 : ClassId) (wc3 : ClassId) (bc9 : ClassId) (bc : Nat) (ho : Int32) (fe : Int32) (cu1 : Nat) (cu2 : Nat) (cu3 : Nat) (cu4 : Nat) (cc2 : ClassId) (cc3 : ClassId) (cf2 : Nat → Int32) (cf3 : Nat → Int32) (sc : Int32) (to : Int32) (q1 : Nat) (q2 : Nat) (q3 : Nat) (q4 : Nat) (q5 : Nat) (q6 : Nat) (cy1 : ClassId) (cy5 : ClassId) (f1 : Nat → Int32) (f5 : Nat → Int32) (w : Nat) (h : Nat) (cr1 : Int32) (qd1 : Int32) (t1 : Nat → Int32) (t2 : Nat → Int32) (t : Nat) (hK : va_K D vwCl [(wc1, .int), (wc2, .int), (wc3, .int), (bc9, .object RX0), (cc2, .int), (cc3, .int), (cy1, .int), (cy5, .boolean)] s)
    (kx_146 : ∀ (t3 : Nat → Int32), ∀ (H : Heap) (locs : List Loc), va_P D vwCl (bL bo B1 B2 B3 B4 B5 B6 B7 ++ ([(h0, Sum.inr (7, [Value.ref wy1, Value.ref wy2, Value.int qd1, Value.ref wy3, Value.ref wy4, Value.int cr1])), (wy1, Sum.inl (wc1, 100, Sum.inl t1)), (wy2, Sum.inl (wc2, 100, Sum.inl t2)), (wy3, Sum.inl (wc3, 40, Sum.inl t3)), (fa, Sum.inr (3, [Value.ref cu, Value.ref rv, Value.ref bt, Value.int (nI bc), Value.int ho, Value.int fe])), (bt, Sum.inl (bc9, 10, Sum.inr (Sum.inr (Sum.inr (Sum.inr (fun j => some (bo j))))))), (cu, Sum.inr (1, [Value.ref cu1, Value.ref cu2, Value.ref cu3, Value.ref cu4, Value.int sc, Value.int to])), (cu2, Sum.inl (cc2, 4, Sum.inl cf2)), (cu3, Sum.inl (cc3, 4, Sum.inl cf3)), (rv, Sum.inr (5, [Value.int (nI w), Value.int (nI h), Value.ref q1, Value.ref q2, Value.ref q3, Value.ref q4, Value.ref q5, Value.ref q6])), (q1, Sum.inl (cy1, 100, Sum.inl f1)), (q5, Sum.inl (cy5, 100, Sum.inl f5))] : va_W)) H → va_D A (bL bo B1 B2 B3 B4 B5 B6 B7 ++ ([(h0, Sum.inr (7, [Value.ref wy1, Value.ref wy2, Value.int qd1, Value.ref wy3, Value.ref wy4, Value.int cr1])), (wy1, Sum.inl (wc1, 100, Sum.inl t1)), (wy2, Sum.inl (wc2, 100, Sum.inl t2)), (wy3, Sum.inl (wc3, 40, Sum.inl t3)), (fa, Sum.inr (3, [Value.ref cu, Value.ref rv, Value.ref bt, Value.int (nI bc), Value.int ho, Value.int fe])), (bt, Sum.inl (bc9, 10, Sum.inr (Sum.inr (Sum.inr (Sum.inr (fun j => some (bo j))))))), (cu, Sum.inr (1, [Value.ref cu1, Value.ref cu2, Value.ref cu3, Value.ref cu4, Value.int sc, Value.int to])), (cu2, Sum.inl (cc2, 4, Sum.inl cf2)), (cu3, Sum.inl (cc3, 4, Sum.inl cf3)), (rv, Sum.inr (5, [Value.int (nI w), Value.int (nI h), Value.ref q1, Value.ref q2, Value.ref q3, Value.ref q4, Value.ref q5, Value.ref q6])), (q1, Sum.inl (cy1, 100, Sum.inl f1)), (q5, Sum.inl (cy5, 100, Sum.inl f5))] : va_W)) → va_S A s.heap H locs → ∀ ls : Array Slot, lv_has ls 5 [(0, Value.ref h0), (1, Value.ref fa), (2, Value.int (nI t))] → W p l e ({ frames := 4, cells := 0, slots := 0, locals := 105 }) s m args below meth c H locs 0 0 Q (F0 m 146 ls [])) :
    ∀ n : Nat, ∀ (t3 : Nat → Int32) (i : Nat), (i ≤ bc) → (bc ≤ 10) → (t < 4) → (w ≤ 10) → (h ≤ 10) → (bc - i) < n → ∀ (H : Heap) (locs : List Loc), va_P D vwCl (bL bo B1 B2 B3 B4 B5 B6 B7 ++ ([(h0, Sum.inr (7, [Value.ref wy1, Value.ref wy2, Value.int qd1, Value.ref wy3, Value.ref wy4, Value.int cr1])), (wy1, Sum.inl (wc1, 100, Sum.inl t1)), (wy2, Sum.inl (wc2, 100, Sum.inl t2)), (wy3, Sum.inl (wc3, 40, Sum.inl t3)), (fa, Sum.inr (3, [Value.ref cu, Value.ref rv, Value.ref bt, Value.int (nI bc), Value.int ho, Value.int fe])), (bt, Sum.inl (bc9, 10, Sum.inr (Sum.inr (Sum.inr (Sum.inr (fun j => some (bo j))))))), (cu, Sum.inr (1, [Value.ref cu1, Value.ref cu2, Value.ref cu3, Value.ref cu4, Value.int sc, Value.int to])), (cu2, Sum.inl (cc2, 4, Sum.inl cf2)), (cu3, Sum.inl (cc3, 4, Sum.inl cf3)), (rv, Sum.inr (5, [Value.int (nI w), Value.int (nI h), Value.ref q1, Value.ref q2, Value.ref q3, Value.ref q4, Value.ref q5, Value.ref q6])), (q1, Sum.inl (cy1, 100, Sum.inl f1)), (q5, Sum.inl (cy5, 100, Sum.inl f5))] : va_W)) H → va_D A (bL bo B1 B2 B3 B4 B5 B6 B7 ++ ([(h0, Sum.inr (7, [Value.ref wy1, Value.ref wy2, Value.int qd1, Value.ref wy3, Value.ref wy4, Value.int cr1])), (wy1, Sum.inl (wc1, 100, Sum.inl t1)), (wy2, Sum.inl (wc2, 100, Sum.inl t2)), (wy3, Sum.inl (wc3, 40, Sum.inl t3)), (fa, Sum.inr (3, [Value.ref cu, Value.ref rv, Value.ref bt, Value.int (nI bc), Value.int ho, Value.int fe])), (bt, Sum.inl (bc9, 10, Sum.inr (Sum.inr (Sum.inr (Sum.inr (fun j => some (bo j))))))), (cu, Sum.inr (1, [Value.ref cu1, Value.ref cu2, Value.ref cu3, Value.ref cu4, Value.int sc, Value.int to])), (cu2, Sum.inl (cc2, 4, Sum.inl cf2)), (cu3, Sum.inl (cc3, 4, Sum.inl cf3)), (rv, Sum.inr (5, [Value.int (nI w), Value.int (nI h), Value.ref q1, Value.ref q2, Value.ref q3, Value.ref q4, Value.ref q5, Value.ref q6])), (q1, Sum.inl (cy1, 100, Sum.inl f1)), (q5, Sum.inl (cy5, 100, Sum.inl f5))] : va_W)) → va_S A s.heap H locs → ∀ ls : Array Slot, lv_has ls 5 [(0, Value.ref h0), (1, Value.ref fa), (2, Value.int (nI t)), (3, Value.int (nI i))] → W p l e ({ frames := 4, cells := 0, slots := 0, locals := 105 }) s m args below meth c H locs 0 0 Q (F0 m 90 ls []) := by
  intro n
  induction n with
  | zero => intro t3 i hi hbc ht h3 h4 hn; exact absurd hn (Nat.not_lt_zero _)
  | succ n ih =>
    intro t3 i hi hbc ht h3 h4 hn H locs hP hD hS ls hl
    obtain ⟨hx, hb, hml, hown, hts⟩ := id F
    refine lv_iload_n hx hb dX8_measure_90 rfl (lv_at hl 3 rfl) ?_
    refine lv_aload_n hx hb dX8_measure_91 rfl (lv_at hl 1 rfl) ?_
    refine va_get (D := D) (ci := 3) (v := Value.int (nI bc)) (C := RX3) (T := TX3) (N := 6) hx hb hts inG_X3 hown hK hP 14 rfl rfl 3 (by decide) (hts _ kw_1_228) (fun _ h9 => h9) rfl dX8_measure_92 ?_
    refine lv_icmp_ge (tgt := 146) hx hb dX8_measure_95 (by decide) (fun c_1 => ?_) (fun c_1 => ?_)
    · skip
      have c_1n : bc ≤ i := (nI_leI (by omega) (by omega)).mp c_1
      have c_1 := Int32.not_lt.mpr c_1
      exact kx_146 t3  H locs (hP.sub [0, 1, 2, 3, 4, 5, 6, 7, 8, 9, 10, 11, 12, 13, 14, 15, 16, 17, 18, 19, 20, 21] rfl) (hD.sub [0, 1, 2, 3, 4, 5, 6, 7, 8, 9, 10, 11, 12, 13, 14, 15, 16, 17, 18, 19, 20, 21] (by decide) rfl) hS ls (lv_sub hl [0, 1, 2] rfl)
    · skip
      have c_1n : i < bc := nb_le (by omega) (by omega) c_1
      have c_1 := Int32.not_le.mp c_1
      refine lv_iload_n hx hb dX8_measure_98 rfl (lv_at hl 3 rfl) ?_
      refine lv_bipush (v := 10) hx hb dX8_measure_99 (by decide) ?_
      refine lv_icmp_ge (tgt := 146) hx hb dX8_measure_101 (by decide) (fun c_2 => ?_) (fun c_2 => ?_)
      · skip
        have c_2n : 10 ≤ i := (nI_leI (by omega) (by omega)).mp c_2
        have c_2 := Int32.not_lt.mpr c_2
        exact kx_146 t3  H locs (hP.sub [0, 1, 2, 3, 4, 5, 6, 7, 8, 9, 10, 11, 12, 13, 14, 15, 16, 17, 18, 19, 20, 21] rfl) (hD.sub [0, 1, 2, 3, 4, 5, 6, 7, 8, 9, 10, 11, 12, 13, 14, 15, 16, 17, 18, 19, 20, 21] (by decide) rfl) hS ls (lv_sub hl [0, 1, 2] rfl)
      · skip
        have c_2n : i < 10 := nb_le (by omega) (by omega) c_2
        have c_2 := Int32.not_le.mp c_2
        refine lv_aload_n hx hb dX8_measure_104 rfl (lv_at hl 1 rfl) ?_
        refine va_get (D := D) (ci := 3) (v := Value.ref bt) (C := RX3) (T := TX3) (N := 6) hx hb hts inG_X3 hown hK hP 14 rfl rfl 2 (by decide) (hts _ kw_1_225) (fun _ h9 => h9) rfl dX8_measure_105 ?_
        refine lv_iload_n hx hb dX8_measure_108 rfl (lv_at hl 3 rfl) ?_
        refine m_aald hx hb hK hP 15 3 rfl rfl i rfl (by omega) (by decide) dX8_measure_109 ?_
        refine W.eq (g2 := F0 m 110 ls [Value.ref (bo i)]) rfl ?_
        refine lv_astore (lv' := [(4, Value.ref (bo i)), (0, Value.ref h0), (1, Value.ref fa), (2, Value.int (nI t)), (3, Value.int (nI i))]) hx hb dX8_measure_110 hl (by decide) rfl (fun ls hl => ?_)
        refine lv_aload_n hx hb dX8_measure_112 rfl (lv_at hl 1 rfl) ?_
        refine va_get (D := D) (ci := 7) (v := Value.ref wy3) (C := RX8) (T := TX8) (N := 6) hx hb hts inG_X8 hown hK hP 10 rfl rfl 3 (by decide) (hts _ kw_2_51) (fun _ h9 => h9) rfl dX8_measure_113 ?_
        refine lv_iload_n hx hb dX8_measure_116 rfl (lv_at hl 4 rfl) ?_
        refine lv_iconst (v := 4) hx hb dX8_measure_117 (by decide) ?_
        refine lv_imul hx hb dX8_measure_118 ?_
        refine lv_topi (fun z_3 ez_3 => ?_)
        obtain rfl : z_3 = nI (i * 4) := ez_3.trans (pk_mul i 4)
        refine lv_iload_n hx hb dX8_measure_119 rfl (lv_at hl 3 rfl) ?_
        refine lv_iadd hx hb dX8_measure_120 ?_
        refine lv_topi (fun z_4 ez_4 => ?_)
        obtain rfl : z_4 = nI (i * 4 + t) := ez_4.trans (nI_add (i * 4) t)
        refine lv_aload_n hx hb dX8_measure_121 rfl (lv_at hl 1 rfl) ?_
        refine lv_aload_n hx hb dX8_measure_122 rfl (lv_at hl 2 rfl) ?_
        refine va_get (D := D) (ci := 3) (v := Value.ref rv) (C := RX3) (T := TX3) (N := 6) hx hb hts inG_X3 hown hK hP 14 rfl rfl 1 (by decide) (hts _ kw_1_221) (fun _ h9 => h9) rfl dX8_measure_123 ?_
        refine lv_aload hx hb dX8_measure_126 (lv_at hl 0 rfl) ?_
        refine va_get (D := D) (ci := 0) (v := .int (B6 i)) (C := RX0) (T := TX0) (N := 7) hx hb hts inG_X0 hown hK hP i (bL_get (by omega)) rfl 5 (by decide) (hts _ kw_1_194) (fun _ h9 => h9) rfl dX8_measure_128 ?_
        refine lv_aload hx hb dX8_measure_131 (lv_at hl 0 rfl) ?_
        refine va_get (D := D) (ci := 0) (v := .int (B7 i)) (C := RX0) (T := TX0) (N := 7) hx hb hts inG_X0 hown hK hP i (bL_get (by omega)) rfl 6 (by decide) (hts _ kw_1_197) (fun _ h9 => h9) rfl dX8_measure_133 ?_
        refine mc_Vi (rest := [Value.int (nI (i * 4 + t)), Value.ref wy3]) (wr := (bL bo B1 B2 B3 B4 B5 B6 B7 ++ ([(wy2, Sum.inl (wc2, 100, Sum.inl t2)), (wy3, Sum.inl (wc3, 40, Sum.inl t3)), (fa, Sum.inr (3, [Value.ref cu, Value.ref rv, Value.ref bt, Value.int (nI bc), Value.int ho, Value.int fe])), (bt, Sum.inl (bc9, 10, Sum.inr (Sum.inr (Sum.inr (Sum.inr (fun j => some (bo j))))))), (cu, Sum.inr (1, [Value.ref cu1, Value.ref cu2, Value.ref cu3, Value.ref cu4, Value.int sc, Value.int to])), (cu2, Sum.inl (cc2, 4, Sum.inl cf2)), (cu3, Sum.inl (cc3, 4, Sum.inl cf3)), (q1, Sum.inl (cy1, 100, Sum.inl f1)), (q5, Sum.inl (cy5, 100, Sum.inl f5))] : va_W))) F hK hP hD hS hA (c_stepsFrom l D h0 rv wy1 wy2 wy3 wy4 wc1 t1 qd1 cr1 q1 q2 q3 q4 q5 q6 w h (B6 i) (B7 i) (by omega) (by omega)) ⟨gk_X8_55.1, gk_X8_55.2, Nat.le_of_ble_eq_true rfl, Nat.le_of_ble_eq_true rfl⟩ [10, 11, 19] [0, 1, 2, 3, 4, 5, 6, 7, 8, 9, 12, 13, 14, 15, 16, 17, 18, 20, 21] [0] ⟨rfl, rfl, rfl, rfl, by decide⟩ rfl xT_move (fun _ _ _ => trivial) 10 rfl rfl rfl hl.1 rfl (Nat.le_of_ble_eq_true rfl) dX8_measure_136 ⟨Nat.le_of_ble_eq_true rfl, Nat.le_of_ble_eq_true rfl⟩ (fun r_5 _ H locs hw hK1 hP hD hS => ?_)
        have hP : va_P D vwCl (bL bo B1 B2 B3 B4 B5 B6 B7 ++ ([(wy2, Sum.inl (wc2, 100, Sum.inl t2)), (wy3, Sum.inl (wc3, 40, Sum.inl t3)), (fa, Sum.inr (3, [Value.ref cu, Value.ref rv, Value.ref bt, Value.int (nI bc), Value.int ho, Value.int fe])), (bt, Sum.inl (bc9, 10, Sum.inr (Sum.inr (Sum.inr (Sum.inr (fun j => some (bo j))))))), (cu, Sum.inr (1, [Value.ref cu1, Value.ref cu2, Value.ref cu3, Value.ref cu4, Value.int sc, Value.int to])), (cu2, Sum.inl (cc2, 4, Sum.inl cf2)), (cu3, Sum.inl (cc3, 4, Sum.inl cf3)), (q1, Sum.inl (cy1, 100, Sum.inl f1)), (q5, Sum.inl (cy5, 100, Sum.inl f5)), (h0, Sum.inr (7, [Value.ref wy1, Value.ref wy2, Value.int qd1, Value.ref wy3, Value.ref wy4, Value.int cr1])), (wy1, Sum.inl (wc1, 100, Sum.inl t1)), (rv, Sum.inr (5, [Value.int (nI w), Value.int (nI h), Value.ref q1, Value.ref q2, Value.ref q3, Value.ref q4, Value.ref q5, Value.ref q6]))] : va_W)) H := hP
        have hD : va_D A (bL bo B1 B2 B3 B4 B5 B6 B7 ++ ([(wy2, Sum.inl (wc2, 100, Sum.inl t2)), (wy3, Sum.inl (wc3, 40, Sum.inl t3)), (fa, Sum.inr (3, [Value.ref cu, Value.ref rv, Value.ref bt, Value.int (nI bc), Value.int ho, Value.int fe])), (bt, Sum.inl (bc9, 10, Sum.inr (Sum.inr (Sum.inr (Sum.inr (fun j => some (bo j))))))), (cu, Sum.inr (1, [Value.ref cu1, Value.ref cu2, Value.ref cu3, Value.ref cu4, Value.int sc, Value.int to])), (cu2, Sum.inl (cc2, 4, Sum.inl cf2)), (cu3, Sum.inl (cc3, 4, Sum.inl cf3)), (q1, Sum.inl (cy1, 100, Sum.inl f1)), (q5, Sum.inl (cy5, 100, Sum.inl f5)), (h0, Sum.inr (7, [Value.ref wy1, Value.ref wy2, Value.int qd1, Value.ref wy3, Value.ref wy4, Value.int cr1])), (wy1, Sum.inl (wc1, 100, Sum.inl t1)), (rv, Sum.inr (5, [Value.int (nI w), Value.int (nI h), Value.ref q1, Value.ref q2, Value.ref q3, Value.ref q4, Value.ref q5, Value.ref q6]))] : va_W)) := hD
        have hw_6 : r_5 = r_5 := hw
        refine m_iast hx hb hK hP hD hS 11 2 rfl rfl (i * 4 + t) rfl (by omega) (by decide) dX8_measure_139 (fun g_7 H locs eg_7 hP hD hS => ?_)
        have hP : va_P D vwCl (bL bo B1 B2 B3 B4 B5 B6 B7 ++ ([(wy2, Sum.inl (wc2, 100, Sum.inl t2)), (wy3, Sum.inl (wc3, 40, Sum.inl g_7)), (fa, Sum.inr (3, [Value.ref cu, Value.ref rv, Value.ref bt, Value.int (nI bc), Value.int ho, Value.int fe])), (bt, Sum.inl (bc9, 10, Sum.inr (Sum.inr (Sum.inr (Sum.inr (fun j => some (bo j))))))), (cu, Sum.inr (1, [Value.ref cu1, Value.ref cu2, Value.ref cu3, Value.ref cu4, Value.int sc, Value.int to])), (cu2, Sum.inl (cc2, 4, Sum.inl cf2)), (cu3, Sum.inl (cc3, 4, Sum.inl cf3)), (q1, Sum.inl (cy1, 100, Sum.inl f1)), (q5, Sum.inl (cy5, 100, Sum.inl f5)), (h0, Sum.inr (7, [Value.ref wy1, Value.ref wy2, Value.int qd1, Value.ref wy3, Value.ref wy4, Value.int cr1])), (wy1, Sum.inl (wc1, 100, Sum.inl t1)), (rv, Sum.inr (5, [Value.int (nI w), Value.int (nI h), Value.ref q1, Value.ref q2, Value.ref q3, Value.ref q4, Value.ref q5, Value.ref q6]))] : va_W)) H := hP
        have hD : va_D A (bL bo B1 B2 B3 B4 B5 B6 B7 ++ ([(wy2, Sum.inl (wc2, 100, Sum.inl t2)), (wy3, Sum.inl (wc3, 40, Sum.inl g_7)), (fa, Sum.inr (3, [Value.ref cu, Value.ref rv, Value.ref bt, Value.int (nI bc), Value.int ho, Value.int fe])), (bt, Sum.inl (bc9, 10, Sum.inr (Sum.inr (Sum.inr (Sum.inr (fun j => some (bo j))))))), (cu, Sum.inr (1, [Value.ref cu1, Value.ref cu2, Value.ref cu3, Value.ref cu4, Value.int sc, Value.int to])), (cu2, Sum.inl (cc2, 4, Sum.inl cf2)), (cu3, Sum.inl (cc3, 4, Sum.inl cf3)), (q1, Sum.inl (cy1, 100, Sum.inl f1)), (q5, Sum.inl (cy5, 100, Sum.inl f5)), (h0, Sum.inr (7, [Value.ref wy1, Value.ref wy2, Value.int qd1, Value.ref wy3, Value.ref wy4, Value.int cr1])), (wy1, Sum.inl (wc1, 100, Sum.inl t1)), (rv, Sum.inr (5, [Value.int (nI w), Value.int (nI h), Value.ref q1, Value.ref q2, Value.ref q3, Value.ref q4, Value.ref q5, Value.ref q6]))] : va_W)) := hD
        refine lv_iinc (v := nI (i + 1)) (lv' := [(3, Value.int (nI (i + 1))), (4, Value.ref (bo i)), (0, Value.ref h0), (1, Value.ref fa), (2, Value.int (nI t))]) hx hb dX8_measure_140 hl (k := 4) rfl (nI_add i 1) (by decide) rfl (fun ls hl => ?_)
        refine lv_goto (tgt := 90) hx hb dX8_measure_143 (by decide) ?_
        exact ih g_7 (i + 1) (by omega) (by omega) (by omega) (by omega) (by omega) (by omega) H locs (hP.sub [0, 1, 2, 3, 4, 5, 6, 7, 8, 9, 19, 20, 10, 11, 12, 13, 14, 15, 16, 21, 17, 18] rfl) (hD.sub [0, 1, 2, 3, 4, 5, 6, 7, 8, 9, 19, 20, 10, 11, 12, 13, 14, 15, 16, 21, 17, 18] (by decide) rfl) hS ls (lv_sub hl [2, 3, 4, 0] rfl)
theorem dX8_measure_66 : decode cX8_measure 66 = .ok (.iload_n 2, 1) := by decide +kernel
theorem dX8_measure_67 : decode cX8_measure 67 = .ok (.aload_n 1, 1) := by decide +kernel
theorem dX8_measure_68 : decode cX8_measure 68 = .ok (.getfield 30, 3) := by decide +kernel
theorem kw_1_107 : Cond.fieldLink RX8 36 "IceFair$Customs" "stairCount" "I" ∈ gw := gw_t1 (List.mem_of_getElem? (i := 107) (by decide +kernel)) (by decide +kernel)
theorem dX8_measure_71 : decode cX8_measure 71 = .ok (.getfield 36, 3) := by decide +kernel
theorem dX8_measure_74 : decode cX8_measure 74 = .ok (.if_icmp .ge 78, 3) := by decide +kernel
theorem dX8_measure_77 : decode cX8_measure 77 = .ok (.iload_n 2, 1) := by decide +kernel
theorem dX8_measure_78 : decode cX8_measure 78 = .ok (.iconst 4, 1) := by decide +kernel
theorem dX8_measure_79 : decode cX8_measure 79 = .ok (.if_icmp .ge 73, 3) := by decide +kernel
theorem dX8_measure_82 : decode cX8_measure 82 = .ok (.aload_n 0, 1) := by decide +kernel
theorem dX8_measure_83 : decode cX8_measure 83 = .ok (.aload_n 1, 1) := by decide +kernel
theorem dX8_measure_84 : decode cX8_measure 84 = .ok (.iload_n 2, 1) := by decide +kernel
theorem kw_4_6 : Cond.methodLink RX8 41 yX8_spreadFrom ∈ gw := gw_t4 (List.mem_of_getElem? (i := 6) (by decide +kernel)) (by decide +kernel)
theorem kw_4_8 : Cond.instanceMethod yX8_spreadFrom ∈ gw := gw_t4 (List.mem_of_getElem? (i := 8) (by decide +kernel)) (by decide +kernel)
theorem ks_2_7 : Cond.selects RX8 yX8_spreadFrom yX8_spreadFrom ∈ gw := gw_s (y := yX8_spreadFrom) (n := 6) (List.mem_append_right _ (List.mem_append_left _ (List.mem_of_getElem? (i := 7) (by decide +kernel))))
theorem kw_4_9 : Cond.code yX8_spreadFrom cX8_spreadFrom 7 none ∈ gw := gw_t4 (List.mem_of_getElem? (i := 9) (by decide +kernel)) (by decide +kernel)
theorem gk_X8_41 : GoodIn gw (wsV RX8 41 RX8 yX8_spreadFrom (.code yX8_spreadFrom cX8_spreadFrom 7 none :: gw)) ∧ (yX8_spreadFrom.cls = RX8 ∧ yX8_spreadFrom.cls ≠ "java/lang/invoke/MethodHandle" ∧ yX8_spreadFrom.cls ≠ "java/lang/invoke/VarHandle" ∧ (parseMethodDescriptor yX8_spreadFrom.desc).map (fun d => d.parameters.length) = some 2) := ⟨gi_V kw_4_6 kw_4_8 ks_2_7 kw_1_10 kw_4_9, by decide +kernel⟩
theorem dX8_measure_85 : decode cX8_measure 85 = .ok (.invokevirtual 41, 3) := by decide +kernel
theorem dX8_measure_88 : decode cX8_measure 88 = .ok (.iconst 0, 1) := by decide +kernel
theorem dX8_measure_89 : decode cX8_measure 89 = .ok (.istore_n 3, 1) := by decide +kernel
theorem dX8_measure_146 : decode cX8_measure 146 = .ok (.iinc 2 1, 3) := by decide +kernel
theorem dX8_measure_149 : decode cX8_measure 149 = .ok (.goto (-83), 3) := by decide +kernel
set_option maxHeartbeats 4000000 in
set_option maxRecDepth 100000 in
theorem lp_meas2 {p : Program} {l : Launch} {e : Env} {s : State} {m : MethodId} {args : Array Value} {below : List Frame} {meth : Method} {c : Code} {Q : State → Prop} {A : Nat → Prop} {D : va_G} (F : mFix p s m args c cX8_measure 5 RX8) (hA : ∀ q, s.heap.size ≤ q → A q) (bo : Nat → Nat) (B1 : Nat → Int32) (B2 : Nat → Int32) (B3 : Nat → Int32) (B4 : Nat → Int32) (B5 : Nat → Int32) (B6 : Nat → Int32) (B7 : Nat → Int32) (h0 : Nat) (fa : Nat) (cu : Nat) (rv : Nat) (bt : Nat) (wy1 : Nat) (wy2 : Nat) (wy3 : Nat) (wy4 : Nat) (wc1 : ClassId) (wc2 : ClassId) (wc3 : ClassId) (bc9 : ClassId) (bc : Nat) (ho : Int32) (fe : Int32) (cu1 : Nat) (cu2 : Nat) (cu3 : Nat) (cu4 : Nat) (cc2 : ClassId) (cc3 : ClassId) (cf2 : Nat → Int32) (cf3 : Nat → Int32) (sc : Int32) (to : Int32) (q1 : Nat) (q2 : Nat) (q3 : Nat) (q4 : Nat) (q5 : Nat) (q6 : Nat) (cy1 : ClassId) (cy5 : ClassId) (f1 : Nat → Int32) (f5 : Nat → Int32) (w : Nat) (h : Nat) (cr1 : Int32) (hK : va_K D vwCl [(wc1, .int), (wc2, .int), (wc3, .int), (bc9, .object RX0), (cc2, .int), (cc3, .int), (cy1, .int), (cy5, .boolean)] s)
    (kx_152 : ∀ (qd1 : Int32) (t1 : Nat → Int32) (t2 : Nat → Int32) (t3 : Nat → Int32), ∀ (H : Heap) (locs : List Loc), va_P D vwCl (bL bo B1 B2 B3 B4 B5 B6 B7 ++ ([(h0, Sum.inr (7, [Value.ref wy1, Value.ref wy2, Value.int qd1, Value.ref wy3, Value.ref wy4, Value.int cr1])), (wy1, Sum.inl (wc1, 100, Sum.inl t1)), (wy2, Sum.inl (wc2, 100, Sum.inl t2)), (wy3, Sum.inl (wc3, 40, Sum.inl t3)), (fa, Sum.inr (3, [Value.ref cu, Value.ref rv, Value.ref bt, Value.int (nI bc), Value.int ho, Value.int fe])), (bt, Sum.inl (bc9, 10, Sum.inr (Sum.inr (Sum.inr (Sum.inr (fun j => some (bo j))))))), (cu, Sum.inr (1, [Value.ref cu1, Value.ref cu2, Value.ref cu3, Value.ref cu4, Value.int sc, Value.int to])), (cu2, Sum.inl (cc2, 4, Sum.inl cf2)), (cu3, Sum.inl (cc3, 4, Sum.inl cf3)), (rv, Sum.inr (5, [Value.int (nI w), Value.int (nI h), Value.ref q1, Value.ref q2, Value.ref q3, Value.ref q4, Value.ref q5, Value.ref q6])), (q1, Sum.inl (cy1, 100, Sum.inl f1)), (q5, Sum.inl (cy5, 100, Sum.inl f5))] : va_W)) H → va_D A (bL bo B1 B2 B3 B4 B5 B6 B7 ++ ([(h0, Sum.inr (7, [Value.ref wy1, Value.ref wy2, Value.int qd1, Value.ref wy3, Value.ref wy4, Value.int cr1])), (wy1, Sum.inl (wc1, 100, Sum.inl t1)), (wy2, Sum.inl (wc2, 100, Sum.inl t2)), (wy3, Sum.inl (wc3, 40, Sum.inl t3)), (fa, Sum.inr (3, [Value.ref cu, Value.ref rv, Value.ref bt, Value.int (nI bc), Value.int ho, Value.int fe])), (bt, Sum.inl (bc9, 10, Sum.inr (Sum.inr (Sum.inr (Sum.inr (fun j => some (bo j))))))), (cu, Sum.inr (1, [Value.ref cu1, Value.ref cu2, Value.ref cu3, Value.ref cu4, Value.int sc, Value.int to])), (cu2, Sum.inl (cc2, 4, Sum.inl cf2)), (cu3, Sum.inl (cc3, 4, Sum.inl cf3)), (rv, Sum.inr (5, [Value.int (nI w), Value.int (nI h), Value.ref q1, Value.ref q2, Value.ref q3, Value.ref q4, Value.ref q5, Value.ref q6])), (q1, Sum.inl (cy1, 100, Sum.inl f1)), (q5, Sum.inl (cy5, 100, Sum.inl f5))] : va_W)) → va_S A s.heap H locs → ∀ ls : Array Slot, lv_has ls 5 [] → W p l e ({ frames := 4, cells := 0, slots := 0, locals := 105 }) s m args below meth c H locs 0 0 Q (F0 m 152 ls [])) :
    ∀ n : Nat, ∀ (qd1 : Int32) (t1 : Nat → Int32) (t2 : Nat → Int32) (t3 : Nat → Int32) (t : Nat), (t ≤ 4) → (bc ≤ 10) → (w ≤ 10) → (h ≤ 10) → (4 - t) < n → ∀ (H : Heap) (locs : List Loc), va_P D vwCl (bL bo B1 B2 B3 B4 B5 B6 B7 ++ ([(h0, Sum.inr (7, [Value.ref wy1, Value.ref wy2, Value.int qd1, Value.ref wy3, Value.ref wy4, Value.int cr1])), (wy1, Sum.inl (wc1, 100, Sum.inl t1)), (wy2, Sum.inl (wc2, 100, Sum.inl t2)), (wy3, Sum.inl (wc3, 40, Sum.inl t3)), (fa, Sum.inr (3, [Value.ref cu, Value.ref rv, Value.ref bt, Value.int (nI bc), Value.int ho, Value.int fe])), (bt, Sum.inl (bc9, 10, Sum.inr (Sum.inr (Sum.inr (Sum.inr (fun j => some (bo j))))))), (cu, Sum.inr (1, [Value.ref cu1, Value.ref cu2, Value.ref cu3, Value.ref cu4, Value.int sc, Value.int to])), (cu2, Sum.inl (cc2, 4, Sum.inl cf2)), (cu3, Sum.inl (cc3, 4, Sum.inl cf3)), (rv, Sum.inr (5, [Value.int (nI w), Value.int (nI h), Value.ref q1, Value.ref q2, Value.ref q3, Value.ref q4, Value.ref q5, Value.ref q6])), (q1, Sum.inl (cy1, 100, Sum.inl f1)), (q5, Sum.inl (cy5, 100, Sum.inl f5))] : va_W)) H → va_D A (bL bo B1 B2 B3 B4 B5 B6 B7 ++ ([(h0, Sum.inr (7, [Value.ref wy1, Value.ref wy2, Value.int qd1, Value.ref wy3, Value.ref wy4, Value.int cr1])), (wy1, Sum.inl (wc1, 100, Sum.inl t1)), (wy2, Sum.inl (wc2, 100, Sum.inl t2)), (wy3, Sum.inl (wc3, 40, Sum.inl t3)), (fa, Sum.inr (3, [Value.ref cu, Value.ref rv, Value.ref bt, Value.int (nI bc), Value.int ho, Value.int fe])), (bt, Sum.inl (bc9, 10, Sum.inr (Sum.inr (Sum.inr (Sum.inr (fun j => some (bo j))))))), (cu, Sum.inr (1, [Value.ref cu1, Value.ref cu2, Value.ref cu3, Value.ref cu4, Value.int sc, Value.int to])), (cu2, Sum.inl (cc2, 4, Sum.inl cf2)), (cu3, Sum.inl (cc3, 4, Sum.inl cf3)), (rv, Sum.inr (5, [Value.int (nI w), Value.int (nI h), Value.ref q1, Value.ref q2, Value.ref q3, Value.ref q4, Value.ref q5, Value.ref q6])), (q1, Sum.inl (cy1, 100, Sum.inl f1)), (q5, Sum.inl (cy5, 100, Sum.inl f5))] : va_W)) → va_S A s.heap H locs → ∀ ls : Array Slot, lv_has ls 5 [(0, Value.ref h0), (1, Value.ref fa), (2, Value.int (nI t))] → W p l e ({ frames := 4, cells := 0, slots := 0, locals := 105 }) s m args below meth c H locs 0 0 Q (F0 m 66 ls []) := by
  intro n
  induction n with
  | zero => intro qd1 t1 t2 t3 t ht hbc h3 h4 hn; exact absurd hn (Nat.not_lt_zero _)
  | succ n ih =>
    intro qd1 t1 t2 t3 t ht hbc h3 h4 hn H locs hP hD hS ls hl
    obtain ⟨hx, hb, hml, hown, hts⟩ := id F
    refine lv_iload_n hx hb dX8_measure_66 rfl (lv_at hl 2 rfl) ?_
    refine lv_aload_n hx hb dX8_measure_67 rfl (lv_at hl 1 rfl) ?_
    refine va_get (D := D) (ci := 3) (v := Value.ref cu) (C := RX3) (T := TX3) (N := 6) hx hb hts inG_X3 hown hK hP 14 rfl rfl 0 (by decide) (hts _ kw_1_216) (fun _ h9 => h9) rfl dX8_measure_68 ?_
    refine va_get (D := D) (ci := 1) (v := Value.int sc) (C := RX1) (T := TX1) (N := 6) hx hb hts inG_X1 hown hK hP 16 rfl rfl 4 (by decide) (hts _ kw_1_107) (fun _ h9 => h9) rfl dX8_measure_71 ?_
    refine lv_icmp_ge (tgt := 152) hx hb dX8_measure_74 (by decide) (fun c_1 => ?_) (fun c_1 => ?_)
    · skip
      have c_1 := Int32.not_lt.mpr c_1
      exact kx_152 qd1 t1 t2 t3  H locs (hP.sub [0, 1, 2, 3, 4, 5, 6, 7, 8, 9, 10, 11, 12, 13, 14, 15, 16, 17, 18, 19, 20, 21] rfl) (hD.sub [0, 1, 2, 3, 4, 5, 6, 7, 8, 9, 10, 11, 12, 13, 14, 15, 16, 17, 18, 19, 20, 21] (by decide) rfl) hS ls (lv_sub hl [] rfl)
    · skip
      have c_1 := Int32.not_le.mp c_1
      refine lv_iload_n hx hb dX8_measure_77 rfl (lv_at hl 2 rfl) ?_
      refine lv_iconst (v := 4) hx hb dX8_measure_78 (by decide) ?_
      refine lv_icmp_ge (tgt := 152) hx hb dX8_measure_79 (by decide) (fun c_2 => ?_) (fun c_2 => ?_)
      · skip
        have c_2n : 4 ≤ t := (nI_leI (by omega) (by omega)).mp c_2
        have c_2 := Int32.not_lt.mpr c_2
        exact kx_152 qd1 t1 t2 t3  H locs (hP.sub [0, 1, 2, 3, 4, 5, 6, 7, 8, 9, 10, 11, 12, 13, 14, 15, 16, 17, 18, 19, 20, 21] rfl) (hD.sub [0, 1, 2, 3, 4, 5, 6, 7, 8, 9, 10, 11, 12, 13, 14, 15, 16, 17, 18, 19, 20, 21] (by decide) rfl) hS ls (lv_sub hl [] rfl)
      · skip
        have c_2n : t < 4 := nb_le (by omega) (by omega) c_2
        have c_2 := Int32.not_le.mp c_2
        refine lv_aload_n hx hb dX8_measure_82 rfl (lv_at hl 0 rfl) ?_
        refine lv_aload_n hx hb dX8_measure_83 rfl (lv_at hl 1 rfl) ?_
        refine lv_iload_n hx hb dX8_measure_84 rfl (lv_at hl 2 rfl) ?_
        refine mc_Vv (rest := []) (wr := (bL bo B1 B2 B3 B4 B5 B6 B7 ++ ([(wy3, Sum.inl (wc3, 40, Sum.inl t3)), (bt, Sum.inl (bc9, 10, Sum.inr (Sum.inr (Sum.inr (Sum.inr (fun j => some (bo j)))))))] : va_W))) F hK hP hD hS hA (c_spreadFrom l D h0 fa cu rv bt wy1 wy2 wy3 wy4 wc1 wc2 cr1 bc ho fe cu1 cu2 cu3 cu4 cc2 cc3 cf2 cf3 sc to q1 q2 q3 q4 q5 q6 cy1 cy5 f1 f5 w h t1 t2 qd1 t (by omega) (by omega) (by omega)) ⟨gk_X8_41.1, gk_X8_41.2, Nat.le_of_ble_eq_true rfl, Nat.le_of_ble_eq_true rfl⟩ [10, 11, 12, 14, 16, 17, 18, 19, 20, 21] [0, 1, 2, 3, 4, 5, 6, 7, 8, 9, 13, 15] [0, 1, 4, 5, 6, 7] ⟨rfl, rfl, rfl, rfl, by decide⟩ rfl xT_move (fun _ _ _ => trivial) 10 rfl rfl rfl hl.1 rfl (Nat.le_of_ble_eq_true rfl) dX8_measure_85 ⟨Nat.le_of_ble_eq_true rfl, Nat.le_of_ble_eq_true rfl⟩ (fun u H locs hw hK1 hP hD hS => ?_)
        obtain ⟨q9_3, t1_4, t2_5⟩ := u
        have hP : va_P D vwCl (bL bo B1 B2 B3 B4 B5 B6 B7 ++ ([(wy3, Sum.inl (wc3, 40, Sum.inl t3)), (bt, Sum.inl (bc9, 10, Sum.inr (Sum.inr (Sum.inr (Sum.inr (fun j => some (bo j))))))), (h0, Sum.inr (7, [Value.ref wy1, Value.ref wy2, Value.int (nI q9_3), Value.ref wy3, Value.ref wy4, Value.int cr1])), (wy1, Sum.inl (wc1, 100, Sum.inl t1_4)), (wy2, Sum.inl (wc2, 100, Sum.inl t2_5)), (fa, Sum.inr (3, [Value.ref cu, Value.ref rv, Value.ref bt, Value.int (nI bc), Value.int ho, Value.int fe])), (cu, Sum.inr (1, [Value.ref cu1, Value.ref cu2, Value.ref cu3, Value.ref cu4, Value.int sc, Value.int to])), (cu2, Sum.inl (cc2, 4, Sum.inl cf2)), (cu3, Sum.inl (cc3, 4, Sum.inl cf3)), (rv, Sum.inr (5, [Value.int (nI w), Value.int (nI h), Value.ref q1, Value.ref q2, Value.ref q3, Value.ref q4, Value.ref q5, Value.ref q6])), (q1, Sum.inl (cy1, 100, Sum.inl f1)), (q5, Sum.inl (cy5, 100, Sum.inl f5))] : va_W)) H := hP
        have hD : va_D A (bL bo B1 B2 B3 B4 B5 B6 B7 ++ ([(wy3, Sum.inl (wc3, 40, Sum.inl t3)), (bt, Sum.inl (bc9, 10, Sum.inr (Sum.inr (Sum.inr (Sum.inr (fun j => some (bo j))))))), (h0, Sum.inr (7, [Value.ref wy1, Value.ref wy2, Value.int (nI q9_3), Value.ref wy3, Value.ref wy4, Value.int cr1])), (wy1, Sum.inl (wc1, 100, Sum.inl t1_4)), (wy2, Sum.inl (wc2, 100, Sum.inl t2_5)), (fa, Sum.inr (3, [Value.ref cu, Value.ref rv, Value.ref bt, Value.int (nI bc), Value.int ho, Value.int fe])), (cu, Sum.inr (1, [Value.ref cu1, Value.ref cu2, Value.ref cu3, Value.ref cu4, Value.int sc, Value.int to])), (cu2, Sum.inl (cc2, 4, Sum.inl cf2)), (cu3, Sum.inl (cc3, 4, Sum.inl cf3)), (rv, Sum.inr (5, [Value.int (nI w), Value.int (nI h), Value.ref q1, Value.ref q2, Value.ref q3, Value.ref q4, Value.ref q5, Value.ref q6])), (q1, Sum.inl (cy1, 100, Sum.inl f1)), (q5, Sum.inl (cy5, 100, Sum.inl f5))] : va_W)) := hD
        refine lv_iconst (v := 0) hx hb dX8_measure_88 (by decide) ?_
        refine lv_istore_n (lv' := [(3, Value.int 0), (0, Value.ref h0), (1, Value.ref fa), (2, Value.int (nI t))]) hx hb dX8_measure_89 rfl hl (by decide) rfl (fun ls hl => ?_)
        refine lp_meas3 F hA bo B1 B2 B3 B4 B5 B6 B7 h0 fa cu rv bt wy1 wy2 wy3 wy4 wc1 wc2 wc3 bc9 bc ho fe cu1 cu2 cu3 cu4 cc2 cc3 cf2 cf3 sc to q1 q2 q3 q4 q5 q6 cy1 cy5 f1 f5 w h cr1 (nI q9_3) t1_4 t2_5 t (hK.sub [0, 1, 2, 3, 4, 5, 6, 7] rfl) (fun t3_8  H locs hP hD hS ls hl => ?_) _ t3 0 (by omega) (by omega) (by omega) (by omega) (by omega) (Nat.lt_succ_self _) _ _ (hP.sub [0, 1, 2, 3, 4, 5, 6, 7, 8, 9, 12, 13, 14, 10, 15, 11, 16, 17, 18, 19, 20, 21] rfl) (hD.sub [0, 1, 2, 3, 4, 5, 6, 7, 8, 9, 12, 13, 14, 10, 15, 11, 16, 17, 18, 19, 20, 21] (by decide) rfl) hS ls (lv_sub hl [1, 2, 3, 0] rfl)
        refine lv_iinc (v := nI (t + 1)) (lv' := [(2, Value.int (nI (t + 1))), (0, Value.ref h0), (1, Value.ref fa)]) hx hb dX8_measure_146 hl (k := 2) rfl (nI_add t 1) (by decide) rfl (fun ls hl => ?_)
        refine lv_goto (tgt := 66) hx hb dX8_measure_149 (by decide) ?_
        exact ih (nI q9_3) t1_4 t2_5 t3_8 (t + 1) (by omega) (by omega) (by omega) (by omega) (by omega) H locs (hP.sub [0, 1, 2, 3, 4, 5, 6, 7, 8, 9, 10, 11, 12, 13, 14, 15, 16, 17, 18, 19, 20, 21] rfl) (hD.sub [0, 1, 2, 3, 4, 5, 6, 7, 8, 9, 10, 11, 12, 13, 14, 15, 16, 17, 18, 19, 20, 21] (by decide) rfl) hS ls (lv_sub hl [1, 2, 0] rfl)
theorem dX8_measure_0 : decode cX8_measure 0 = .ok (.aload_n 0, 1) := by decide +kernel
theorem dX8_measure_1 : decode cX8_measure 1 = .ok (.iconst 0, 1) := by decide +kernel
theorem dX8_measure_2 : decode cX8_measure 2 = .ok (.putfield 74, 3) := by decide +kernel
theorem dX8_measure_5 : decode cX8_measure 5 = .ok (.iconst 0, 1) := by decide +kernel
theorem dX8_measure_6 : decode cX8_measure 6 = .ok (.istore_n 2, 1) := by decide +kernel
theorem dX8_measure_64 : decode cX8_measure 64 = .ok (.iconst 0, 1) := by decide +kernel
theorem dX8_measure_65 : decode cX8_measure 65 = .ok (.istore_n 2, 1) := by decide +kernel
theorem dX8_measure_152 : decode cX8_measure 152 = .ok (.return_, 1) := by decide +kernel
set_option maxHeartbeats 4000000 in
set_option maxRecDepth 100000 in
theorem c_measure (l : Launch) (D : va_G) (bo : Nat → Nat) (B1 : Nat → Int32) (B2 : Nat → Int32) (B3 : Nat → Int32) (B4 : Nat → Int32) (B5 : Nat → Int32) (B6 : Nat → Int32) (B7 : Nat → Int32) (h0 : Nat) (fa : Nat) (cu : Nat) (rv : Nat) (bt : Nat) (wy1 : Nat) (wy2 : Nat) (wy3 : Nat) (wy4 : Nat) (wc1 : ClassId) (wc2 : ClassId) (wc3 : ClassId) (bc9 : ClassId) (bc : Nat) (ho : Int32) (fe : Int32) (cu1 : Nat) (cu2 : Nat) (cu3 : Nat) (cu4 : Nat) (cc2 : ClassId) (cc3 : ClassId) (cf2 : Nat → Int32) (cf3 : Nat → Int32) (sc : Int32) (to : Int32) (q1 : Nat) (q2 : Nat) (q3 : Nat) (q4 : Nat) (q5 : Nat) (q6 : Nat) (cy1 : ClassId) (cy5 : ClassId) (f1 : Nat → Int32) (f5 : Nat → Int32) (w : Nat) (h : Nat) (s1 : Nat → Int32) (s2 : Nat → Int32) (s3 : Nat → Int32) (qd : Int32) (cr : Int32) (h3 : w ≤ 10) (h4 : h ≤ 10) (hbc : bc ≤ 10) : cV l yX8_measure (.code yX8_measure cX8_measure 5 none) ({ frames := 4, cells := 0, slots := 0, locals := 105 }) D [(wc1, .int), (wc2, .int), (wc3, .int), (bc9, .object RX0), (cc2, .int), (cc3, .int), (cy1, .int), (cy5, .boolean)] (bL bo B1 B2 B3 B4 B5 B6 B7 ++ ([(h0, Sum.inr (7, [Value.ref wy1, Value.ref wy2, Value.int qd, Value.ref wy3, Value.ref wy4, Value.int cr])), (wy1, Sum.inl (wc1, 100, Sum.inl s1)), (wy2, Sum.inl (wc2, 100, Sum.inl s2)), (wy3, Sum.inl (wc3, 40, Sum.inl s3)), (fa, Sum.inr (3, [Value.ref cu, Value.ref rv, Value.ref bt, Value.int (nI bc), Value.int ho, Value.int fe])), (bt, Sum.inl (bc9, 10, Sum.inr (Sum.inr (Sum.inr (Sum.inr (fun j => some (bo j))))))), (cu, Sum.inr (1, [Value.ref cu1, Value.ref cu2, Value.ref cu3, Value.ref cu4, Value.int sc, Value.int to])), (cu2, Sum.inl (cc2, 4, Sum.inl cf2)), (cu3, Sum.inl (cc3, 4, Sum.inl cf3)), (rv, Sum.inr (5, [Value.int (nI w), Value.int (nI h), Value.ref q1, Value.ref q2, Value.ref q3, Value.ref q4, Value.ref q5, Value.ref q6])), (q1, Sum.inl (cy1, 100, Sum.inl f1)), (q5, Sum.inl (cy5, 100, Sum.inl f5))] : va_W)) xT [Value.ref h0, Value.ref fa] (S := Int32 × Int32 × (Nat → Int32) × (Nat → Int32) × (Nat → Int32)) (fun u => match u with | (qd1, cr1, t1, t2, t3) => True) (fun u => match u with | (qd1, cr1, t1, t2, t3) => []) (fun u => match u with | (qd1, cr1, t1, t2, t3) => (bL bo B1 B2 B3 B4 B5 B6 B7 ++ ([(h0, Sum.inr (7, [Value.ref wy1, Value.ref wy2, Value.int qd1, Value.ref wy3, Value.ref wy4, Value.int cr1])), (wy1, Sum.inl (wc1, 100, Sum.inl t1)), (wy2, Sum.inl (wc2, 100, Sum.inl t2)), (wy3, Sum.inl (wc3, 40, Sum.inl t3)), (fa, Sum.inr (3, [Value.ref cu, Value.ref rv, Value.ref bt, Value.int (nI bc), Value.int ho, Value.int fe])), (bt, Sum.inl (bc9, 10, Sum.inr (Sum.inr (Sum.inr (Sum.inr (fun j => some (bo j))))))), (cu, Sum.inr (1, [Value.ref cu1, Value.ref cu2, Value.ref cu3, Value.ref cu4, Value.int sc, Value.int to])), (cu2, Sum.inl (cc2, 4, Sum.inl cf2)), (cu3, Sum.inl (cc3, 4, Sum.inl cf3)), (rv, Sum.inr (5, [Value.int (nI w), Value.int (nI h), Value.ref q1, Value.ref q2, Value.ref q3, Value.ref q4, Value.ref q5, Value.ref q6])), (q1, Sum.inl (cy1, 100, Sum.inl f1)), (q5, Sum.inl (cy5, 100, Sum.inl f5))] : va_W))) := by
  intro sz
  refine Met.ofW (cc := cX8_measure) (maxL := 5) (ret := none) (by decide) rfl ?_
  intro p e s m args below meth c s₁ B hml hv
  obtain ⟨rfl, hsz, hP, hK, hD0, hX⟩ := hv
  have hx := B.exec
  have hb := B.bytes
  have hr := B.returns
  have hts0 := atoms_spec (ws := .code yX8_measure cX8_measure 5 none :: gw) B.pre
  have hts := fun (w : Cond) (h : w ∈ gw) => hts0 w (List.mem_cons_of_mem _ h)
  have hown : s.vm.findClass RX8 = some m.cls := findClass_of_methodNamed B.named
  have hlocks := B.notSynchronized
  have F : mFix p s m _ c cX8_measure 5 RX8 := ⟨hx, hb, hml, hown, hts⟩
  subst hsz
  have hD := hD0.self (sz := s.heap.size)
  generalize hAe : va_A (bL bo B1 B2 B3 B4 B5 B6 B7 ++ ([(h0, Sum.inr (7, [Value.ref wy1, Value.ref wy2, Value.int qd, Value.ref wy3, Value.ref wy4, Value.int cr])), (wy1, Sum.inl (wc1, 100, Sum.inl s1)), (wy2, Sum.inl (wc2, 100, Sum.inl s2)), (wy3, Sum.inl (wc3, 40, Sum.inl s3)), (fa, Sum.inr (3, [Value.ref cu, Value.ref rv, Value.ref bt, Value.int (nI bc), Value.int ho, Value.int fe])), (bt, Sum.inl (bc9, 10, Sum.inr (Sum.inr (Sum.inr (Sum.inr (fun j => some (bo j))))))), (cu, Sum.inr (1, [Value.ref cu1, Value.ref cu2, Value.ref cu3, Value.ref cu4, Value.int sc, Value.int to])), (cu2, Sum.inl (cc2, 4, Sum.inl cf2)), (cu3, Sum.inl (cc3, 4, Sum.inl cf3)), (rv, Sum.inr (5, [Value.int (nI w), Value.int (nI h), Value.ref q1, Value.ref q2, Value.ref q3, Value.ref q4, Value.ref q5, Value.ref q6])), (q1, Sum.inl (cy1, 100, Sum.inl f1)), (q5, Sum.inl (cy5, 100, Sum.inl f5))] : va_W)) s.heap.size = A at hD hX ⊢
  have hA : ∀ q : Nat, s.heap.size ≤ q → A q := fun q h => by rw [← hAe]; exact Or.inr h
  have hS : va_S A s.heap s.heap [] := va_S.rf
  have hl := lv_entry ([Value.ref h0, Value.ref fa]) (n := 5) (Nat.le_of_ble_eq_true rfl)
  rw [lg_entry_eq]
  generalize (lg_sl ([Value.ref h0, Value.ref fa]) ++ List.replicate (5 - (lg_sl ([Value.ref h0, Value.ref fa])).length) Slot.unset).toArray = ls at hl ⊢
  have hl : lv_has ls 5 [(0, Value.ref h0), (1, Value.ref fa)] := hl
  have hP : va_P D vwCl (bL bo B1 B2 B3 B4 B5 B6 B7 ++ ([(h0, Sum.inr (7, [Value.ref wy1, Value.ref wy2, Value.int qd, Value.ref wy3, Value.ref wy4, Value.int cr])), (wy1, Sum.inl (wc1, 100, Sum.inl s1)), (wy2, Sum.inl (wc2, 100, Sum.inl s2)), (wy3, Sum.inl (wc3, 40, Sum.inl s3)), (fa, Sum.inr (3, [Value.ref cu, Value.ref rv, Value.ref bt, Value.int (nI bc), Value.int ho, Value.int fe])), (bt, Sum.inl (bc9, 10, Sum.inr (Sum.inr (Sum.inr (Sum.inr (fun j => some (bo j))))))), (cu, Sum.inr (1, [Value.ref cu1, Value.ref cu2, Value.ref cu3, Value.ref cu4, Value.int sc, Value.int to])), (cu2, Sum.inl (cc2, 4, Sum.inl cf2)), (cu3, Sum.inl (cc3, 4, Sum.inl cf3)), (rv, Sum.inr (5, [Value.int (nI w), Value.int (nI h), Value.ref q1, Value.ref q2, Value.ref q3, Value.ref q4, Value.ref q5, Value.ref q6])), (q1, Sum.inl (cy1, 100, Sum.inl f1)), (q5, Sum.inl (cy5, 100, Sum.inl f5))] : va_W)) s.heap := hP
  refine lv_aload_n hx hb dX8_measure_0 rfl (lv_at hl 0 rfl) ?_
  refine lv_iconst (v := 0) hx hb dX8_measure_1 (by decide) ?_
  refine va_put (D := D) (ci := 7) (v := Value.int 0) (ty := .int) (C := RX8) (T := TX8) (N := 6) hx hb hts inG_X8 tyX8 tyX8_ok nmX8 hown hK hP hD hS 10 rfl rfl 5 (by decide) (hts _ kw_2_53) (fun _ h9 => h9) rfl (by decide +kernel) rfl rfl (Nat.le_of_ble_eq_true rfl) dX8_measure_2 (fun H locs hP hD hS => ?_)
  have hP : va_P D vwCl (bL bo B1 B2 B3 B4 B5 B6 B7 ++ ([(h0, Sum.inr (7, [Value.ref wy1, Value.ref wy2, Value.int qd, Value.ref wy3, Value.ref wy4, Value.int 0])), (wy1, Sum.inl (wc1, 100, Sum.inl s1)), (wy2, Sum.inl (wc2, 100, Sum.inl s2)), (wy3, Sum.inl (wc3, 40, Sum.inl s3)), (fa, Sum.inr (3, [Value.ref cu, Value.ref rv, Value.ref bt, Value.int (nI bc), Value.int ho, Value.int fe])), (bt, Sum.inl (bc9, 10, Sum.inr (Sum.inr (Sum.inr (Sum.inr (fun j => some (bo j))))))), (cu, Sum.inr (1, [Value.ref cu1, Value.ref cu2, Value.ref cu3, Value.ref cu4, Value.int sc, Value.int to])), (cu2, Sum.inl (cc2, 4, Sum.inl cf2)), (cu3, Sum.inl (cc3, 4, Sum.inl cf3)), (rv, Sum.inr (5, [Value.int (nI w), Value.int (nI h), Value.ref q1, Value.ref q2, Value.ref q3, Value.ref q4, Value.ref q5, Value.ref q6])), (q1, Sum.inl (cy1, 100, Sum.inl f1)), (q5, Sum.inl (cy5, 100, Sum.inl f5))] : va_W)) H := hP
  have hD : va_D A (bL bo B1 B2 B3 B4 B5 B6 B7 ++ ([(h0, Sum.inr (7, [Value.ref wy1, Value.ref wy2, Value.int qd, Value.ref wy3, Value.ref wy4, Value.int 0])), (wy1, Sum.inl (wc1, 100, Sum.inl s1)), (wy2, Sum.inl (wc2, 100, Sum.inl s2)), (wy3, Sum.inl (wc3, 40, Sum.inl s3)), (fa, Sum.inr (3, [Value.ref cu, Value.ref rv, Value.ref bt, Value.int (nI bc), Value.int ho, Value.int fe])), (bt, Sum.inl (bc9, 10, Sum.inr (Sum.inr (Sum.inr (Sum.inr (fun j => some (bo j))))))), (cu, Sum.inr (1, [Value.ref cu1, Value.ref cu2, Value.ref cu3, Value.ref cu4, Value.int sc, Value.int to])), (cu2, Sum.inl (cc2, 4, Sum.inl cf2)), (cu3, Sum.inl (cc3, 4, Sum.inl cf3)), (rv, Sum.inr (5, [Value.int (nI w), Value.int (nI h), Value.ref q1, Value.ref q2, Value.ref q3, Value.ref q4, Value.ref q5, Value.ref q6])), (q1, Sum.inl (cy1, 100, Sum.inl f1)), (q5, Sum.inl (cy5, 100, Sum.inl f5))] : va_W)) := hD
  refine lv_iconst (v := 0) hx hb dX8_measure_5 (by decide) ?_
  refine lv_istore_n (lv' := [(2, Value.int 0), (0, Value.ref h0), (1, Value.ref fa)]) hx hb dX8_measure_6 rfl hl (by decide) rfl (fun ls hl => ?_)
  refine lp_meas1 F hA bo B1 B2 B3 B4 B5 B6 B7 h0 fa cu rv bt wy1 wy2 wy3 wy4 wc1 wc2 wc3 bc9 bc ho fe cu1 cu2 cu3 cu4 cc2 cc3 cf2 cf3 sc to q1 q2 q3 q4 q5 q6 cy1 cy5 f1 f5 w h s1 s2 s3 qd (hK.sub [0, 1, 2, 3, 4, 5, 6, 7] rfl) (fun cr1_1  H locs hP hD hS ls hl => ?_) _ 0 0 (by omega) (by omega) (Nat.lt_succ_self _) _ _ (hP.sub [0, 1, 2, 3, 4, 5, 6, 7, 8, 9, 10, 11, 12, 13, 14, 15, 16, 17, 18, 19, 20, 21] rfl) (hD.sub [0, 1, 2, 3, 4, 5, 6, 7, 8, 9, 10, 11, 12, 13, 14, 15, 16, 17, 18, 19, 20, 21] (by decide) rfl) hS ls (lv_sub hl [1, 2, 0] rfl)
  refine lv_iconst (v := 0) hx hb dX8_measure_64 (by decide) ?_
  refine lv_istore_n (lv' := [(2, Value.int 0), (0, Value.ref h0), (1, Value.ref fa)]) hx hb dX8_measure_65 rfl hl (by decide) rfl (fun ls hl => ?_)
  refine lp_meas2 F hA bo B1 B2 B3 B4 B5 B6 B7 h0 fa cu rv bt wy1 wy2 wy3 wy4 wc1 wc2 wc3 bc9 bc ho fe cu1 cu2 cu3 cu4 cc2 cc3 cf2 cf3 sc to q1 q2 q3 q4 q5 q6 cy1 cy5 f1 f5 w h cr1_1 (hK.sub [0, 1, 2, 3, 4, 5, 6, 7] rfl) (fun qd1_2 t1_3 t2_4 t3_5  H locs hP hD hS ls hl => ?_) _ qd s1 s2 s3 0 (by omega) (by omega) (by omega) (by omega) (Nat.lt_succ_self _) _ _ (hP.sub [0, 1, 2, 3, 4, 5, 6, 7, 8, 9, 10, 11, 12, 13, 14, 15, 16, 17, 18, 19, 20, 21] rfl) (hD.sub [0, 1, 2, 3, 4, 5, 6, 7, 8, 9, 10, 11, 12, 13, 14, 15, 16, 17, 18, 19, 20, 21] (by decide) rfl) hS ls (lv_sub hl [1, 2, 0] rfl)
  have hP9 := hP.sub (ws' := (bL bo B1 B2 B3 B4 B5 B6 B7 ++ ([(h0, Sum.inr (7, [Value.ref wy1, Value.ref wy2, Value.int qd1_2, Value.ref wy3, Value.ref wy4, Value.int cr1_1])), (wy1, Sum.inl (wc1, 100, Sum.inl t1_3)), (wy2, Sum.inl (wc2, 100, Sum.inl t2_4)), (wy3, Sum.inl (wc3, 40, Sum.inl t3_5)), (fa, Sum.inr (3, [Value.ref cu, Value.ref rv, Value.ref bt, Value.int (nI bc), Value.int ho, Value.int fe])), (bt, Sum.inl (bc9, 10, Sum.inr (Sum.inr (Sum.inr (Sum.inr (fun j => some (bo j))))))), (cu, Sum.inr (1, [Value.ref cu1, Value.ref cu2, Value.ref cu3, Value.ref cu4, Value.int sc, Value.int to])), (cu2, Sum.inl (cc2, 4, Sum.inl cf2)), (cu3, Sum.inl (cc3, 4, Sum.inl cf3)), (rv, Sum.inr (5, [Value.int (nI w), Value.int (nI h), Value.ref q1, Value.ref q2, Value.ref q3, Value.ref q4, Value.ref q5, Value.ref q6])), (q1, Sum.inl (cy1, 100, Sum.inl f1)), (q5, Sum.inl (cy5, 100, Sum.inl f5))] : va_W))) [0, 1, 2, 3, 4, 5, 6, 7, 8, 9, 10, 11, 12, 13, 14, 15, 16, 17, 18, 19, 20, 21] rfl
  have hD9 := hD.sub (ws' := (bL bo B1 B2 B3 B4 B5 B6 B7 ++ ([(h0, Sum.inr (7, [Value.ref wy1, Value.ref wy2, Value.int qd1_2, Value.ref wy3, Value.ref wy4, Value.int cr1_1])), (wy1, Sum.inl (wc1, 100, Sum.inl t1_3)), (wy2, Sum.inl (wc2, 100, Sum.inl t2_4)), (wy3, Sum.inl (wc3, 40, Sum.inl t3_5)), (fa, Sum.inr (3, [Value.ref cu, Value.ref rv, Value.ref bt, Value.int (nI bc), Value.int ho, Value.int fe])), (bt, Sum.inl (bc9, 10, Sum.inr (Sum.inr (Sum.inr (Sum.inr (fun j => some (bo j))))))), (cu, Sum.inr (1, [Value.ref cu1, Value.ref cu2, Value.ref cu3, Value.ref cu4, Value.int sc, Value.int to])), (cu2, Sum.inl (cc2, 4, Sum.inl cf2)), (cu3, Sum.inl (cc3, 4, Sum.inl cf3)), (rv, Sum.inr (5, [Value.int (nI w), Value.int (nI h), Value.ref q1, Value.ref q2, Value.ref q3, Value.ref q4, Value.ref q5, Value.ref q6])), (q1, Sum.inl (cy1, 100, Sum.inl f1)), (q5, Sum.inl (cy5, 100, Sum.inl f5))] : va_W))) [0, 1, 2, 3, 4, 5, 6, 7, 8, 9, 10, 11, 12, 13, 14, 15, 16, 17, 18, 19, 20, 21] (by decide) rfl
  have hK9 := hK.sub (tys' := []) [] rfl
  refine W.widen (k := 0) (n := 0) (by decide) (by decide) ?_
  exact W.vret hx hb hr (fun t ht hW => ⟨⟨(qd1_2, cr1_1, t1_3, t2_4, t3_5), rfl, trivial, by rw [ht]; exact hP9, va_K.moved hW.alike hK9, hD9⟩, hS.F ht⟩) hS.2.2 dX8_measure_152
theorem dX8_reachesSomeStair_2 : decode cX8_reachesSomeStair 2 = .ok (.iload_n 3, 1) := by decide +kernel
theorem dX8_reachesSomeStair_3 : decode cX8_reachesSomeStair 3 = .ok (.aload_n 1, 1) := by decide +kernel
theorem dX8_reachesSomeStair_4 : decode cX8_reachesSomeStair 4 = .ok (.getfield 30, 3) := by decide +kernel
theorem dX8_reachesSomeStair_7 : decode cX8_reachesSomeStair 7 = .ok (.getfield 36, 3) := by decide +kernel
theorem dX8_reachesSomeStair_10 : decode cX8_reachesSomeStair 10 = .ok (.if_icmp .ge 30, 3) := by decide +kernel
theorem dX8_reachesSomeStair_13 : decode cX8_reachesSomeStair 13 = .ok (.iload_n 3, 1) := by decide +kernel
theorem dX8_reachesSomeStair_14 : decode cX8_reachesSomeStair 14 = .ok (.iconst 4, 1) := by decide +kernel
theorem dX8_reachesSomeStair_15 : decode cX8_reachesSomeStair 15 = .ok (.if_icmp .ge 25, 3) := by decide +kernel
theorem dX8_reachesSomeStair_18 : decode cX8_reachesSomeStair 18 = .ok (.aload_n 0, 1) := by decide +kernel
theorem dX8_reachesSomeStair_19 : decode cX8_reachesSomeStair 19 = .ok (.getfield 18, 3) := by decide +kernel
theorem dX8_reachesSomeStair_22 : decode cX8_reachesSomeStair 22 = .ok (.iload_n 2, 1) := by decide +kernel
theorem dX8_reachesSomeStair_23 : decode cX8_reachesSomeStair 23 = .ok (.iconst 4, 1) := by decide +kernel
theorem dX8_reachesSomeStair_24 : decode cX8_reachesSomeStair 24 = .ok (.imul, 1) := by decide +kernel
theorem dX8_reachesSomeStair_25 : decode cX8_reachesSomeStair 25 = .ok (.iload_n 3, 1) := by decide +kernel
theorem dX8_reachesSomeStair_26 : decode cX8_reachesSomeStair 26 = .ok (.iadd, 1) := by decide +kernel
theorem dX8_reachesSomeStair_27 : decode cX8_reachesSomeStair 27 = .ok (.iaload, 1) := by decide +kernel
theorem dX8_reachesSomeStair_28 : decode cX8_reachesSomeStair 28 = .ok (.iconst (-1), 1) := by decide +kernel
theorem dX8_reachesSomeStair_29 : decode cX8_reachesSomeStair 29 = .ok (.if_icmp .eq 5, 3) := by decide +kernel
theorem dX8_reachesSomeStair_34 : decode cX8_reachesSomeStair 34 = .ok (.iinc 3 1, 3) := by decide +kernel
theorem dX8_reachesSomeStair_37 : decode cX8_reachesSomeStair 37 = .ok (.goto (-35), 3) := by decide +kernel
set_option maxHeartbeats 4000000 in
set_option maxRecDepth 100000 in
theorem lp_reaches {p : Program} {l : Launch} {e : Env} {s : State} {m : MethodId} {args : Array Value} {below : List Frame} {meth : Method} {c : Code} {Q : State → Prop} {A : Nat → Prop} {D : va_G} (F : mFix p s m args c cX8_reachesSomeStair 4 RX8) (hA : ∀ q, s.heap.size ≤ q → A q) (h0 : Nat) (fa : Nat) (cu : Nat) (rv : Nat) (bt : Nat) (wy1 : Nat) (wy2 : Nat) (wy3 : Nat) (wy4 : Nat) (cu1 : Nat) (cu2 : Nat) (cu3 : Nat) (cu4 : Nat) (wc3 : ClassId) (s3 : Nat → Int32) (qd : Int32) (cr : Int32) (sc : Int32) (to : Int32) (bc : Nat) (ho : Int32) (fe : Int32) (bn : Nat) (hK : va_K D vwCl [(wc3, .int)] s)
    (kx_32 : ∀ (H : Heap) (locs : List Loc), va_P D vwCl [(h0, Sum.inr (7, [Value.ref wy1, Value.ref wy2, Value.int qd, Value.ref wy3, Value.ref wy4, Value.int cr])), (wy3, Sum.inl (wc3, 40, Sum.inl s3)), (fa, Sum.inr (3, [Value.ref cu, Value.ref rv, Value.ref bt, Value.int (nI bc), Value.int ho, Value.int fe])), (cu, Sum.inr (1, [Value.ref cu1, Value.ref cu2, Value.ref cu3, Value.ref cu4, Value.int sc, Value.int to]))] H → va_D A [(h0, Sum.inr (7, [Value.ref wy1, Value.ref wy2, Value.int qd, Value.ref wy3, Value.ref wy4, Value.int cr])), (wy3, Sum.inl (wc3, 40, Sum.inl s3)), (fa, Sum.inr (3, [Value.ref cu, Value.ref rv, Value.ref bt, Value.int (nI bc), Value.int ho, Value.int fe])), (cu, Sum.inr (1, [Value.ref cu1, Value.ref cu2, Value.ref cu3, Value.ref cu4, Value.int sc, Value.int to]))] → va_S A s.heap H locs → ∀ ls : Array Slot, lv_has ls 4 [] → W p l e ({ frames := 0, cells := 0, slots := 0, locals := 0 }) s m args below meth c H locs 0 0 Q (F0 m 32 ls []))
    (kx_40 : ∀ (H : Heap) (locs : List Loc), va_P D vwCl [(h0, Sum.inr (7, [Value.ref wy1, Value.ref wy2, Value.int qd, Value.ref wy3, Value.ref wy4, Value.int cr])), (wy3, Sum.inl (wc3, 40, Sum.inl s3)), (fa, Sum.inr (3, [Value.ref cu, Value.ref rv, Value.ref bt, Value.int (nI bc), Value.int ho, Value.int fe])), (cu, Sum.inr (1, [Value.ref cu1, Value.ref cu2, Value.ref cu3, Value.ref cu4, Value.int sc, Value.int to]))] H → va_D A [(h0, Sum.inr (7, [Value.ref wy1, Value.ref wy2, Value.int qd, Value.ref wy3, Value.ref wy4, Value.int cr])), (wy3, Sum.inl (wc3, 40, Sum.inl s3)), (fa, Sum.inr (3, [Value.ref cu, Value.ref rv, Value.ref bt, Value.int (nI bc), Value.int ho, Value.int fe])), (cu, Sum.inr (1, [Value.ref cu1, Value.ref cu2, Value.ref cu3, Value.ref cu4, Value.int sc, Value.int to]))] → va_S A s.heap H locs → ∀ ls : Array Slot, lv_has ls 4 [] → W p l e ({ frames := 0, cells := 0, slots := 0, locals := 0 }) s m args below meth c H locs 0 0 Q (F0 m 40 ls [])) :
    ∀ n : Nat, ∀ (t : Nat), (t ≤ 4) → (bn < 10) → (4 - t) < n → ∀ (H : Heap) (locs : List Loc), va_P D vwCl [(h0, Sum.inr (7, [Value.ref wy1, Value.ref wy2, Value.int qd, Value.ref wy3, Value.ref wy4, Value.int cr])), (wy3, Sum.inl (wc3, 40, Sum.inl s3)), (fa, Sum.inr (3, [Value.ref cu, Value.ref rv, Value.ref bt, Value.int (nI bc), Value.int ho, Value.int fe])), (cu, Sum.inr (1, [Value.ref cu1, Value.ref cu2, Value.ref cu3, Value.ref cu4, Value.int sc, Value.int to]))] H → va_D A [(h0, Sum.inr (7, [Value.ref wy1, Value.ref wy2, Value.int qd, Value.ref wy3, Value.ref wy4, Value.int cr])), (wy3, Sum.inl (wc3, 40, Sum.inl s3)), (fa, Sum.inr (3, [Value.ref cu, Value.ref rv, Value.ref bt, Value.int (nI bc), Value.int ho, Value.int fe])), (cu, Sum.inr (1, [Value.ref cu1, Value.ref cu2, Value.ref cu3, Value.ref cu4, Value.int sc, Value.int to]))] → va_S A s.heap H locs → ∀ ls : Array Slot, lv_has ls 4 [(0, Value.ref h0), (1, Value.ref fa), (2, Value.int (nI bn)), (3, Value.int (nI t))] → W p l e ({ frames := 0, cells := 0, slots := 0, locals := 0 }) s m args below meth c H locs 0 0 Q (F0 m 2 ls []) := by
  intro n
  induction n with
  | zero => intro t ht hn9 hn; exact absurd hn (Nat.not_lt_zero _)
  | succ n ih =>
    intro t ht hn9 hn H locs hP hD hS ls hl
    obtain ⟨hx, hb, hml, hown, hts⟩ := id F
    refine lv_iload_n hx hb dX8_reachesSomeStair_2 rfl (lv_at hl 3 rfl) ?_
    refine lv_aload_n hx hb dX8_reachesSomeStair_3 rfl (lv_at hl 1 rfl) ?_
    refine va_get (D := D) (ci := 3) (v := Value.ref cu) (C := RX3) (T := TX3) (N := 6) hx hb hts inG_X3 hown hK hP 2 rfl rfl 0 (by decide) (hts _ kw_1_216) (fun _ h9 => h9) rfl dX8_reachesSomeStair_4 ?_
    refine va_get (D := D) (ci := 1) (v := Value.int sc) (C := RX1) (T := TX1) (N := 6) hx hb hts inG_X1 hown hK hP 3 rfl rfl 4 (by decide) (hts _ kw_1_107) (fun _ h9 => h9) rfl dX8_reachesSomeStair_7 ?_
    refine lv_icmp_ge (tgt := 40) hx hb dX8_reachesSomeStair_10 (by decide) (fun c_1 => ?_) (fun c_1 => ?_)
    · skip
      have c_1 := Int32.not_lt.mpr c_1
      exact kx_40   H locs (hP.sub [0, 1, 2, 3] rfl) (hD.sub [0, 1, 2, 3] (by decide) rfl) hS ls (lv_sub hl [] rfl)
    · skip
      have c_1 := Int32.not_le.mp c_1
      refine lv_iload_n hx hb dX8_reachesSomeStair_13 rfl (lv_at hl 3 rfl) ?_
      refine lv_iconst (v := 4) hx hb dX8_reachesSomeStair_14 (by decide) ?_
      refine lv_icmp_ge (tgt := 40) hx hb dX8_reachesSomeStair_15 (by decide) (fun c_2 => ?_) (fun c_2 => ?_)
      · skip
        have c_2n : 4 ≤ t := (nI_leI (by omega) (by omega)).mp c_2
        have c_2 := Int32.not_lt.mpr c_2
        exact kx_40   H locs (hP.sub [0, 1, 2, 3] rfl) (hD.sub [0, 1, 2, 3] (by decide) rfl) hS ls (lv_sub hl [] rfl)
      · skip
        have c_2n : t < 4 := nb_le (by omega) (by omega) c_2
        have c_2 := Int32.not_le.mp c_2
        refine lv_aload_n hx hb dX8_reachesSomeStair_18 rfl (lv_at hl 0 rfl) ?_
        refine va_get (D := D) (ci := 7) (v := Value.ref wy3) (C := RX8) (T := TX8) (N := 6) hx hb hts inG_X8 hown hK hP 0 rfl rfl 3 (by decide) (hts _ kw_2_51) (fun _ h9 => h9) rfl dX8_reachesSomeStair_19 ?_
        refine lv_iload_n hx hb dX8_reachesSomeStair_22 rfl (lv_at hl 2 rfl) ?_
        refine lv_iconst (v := 4) hx hb dX8_reachesSomeStair_23 (by decide) ?_
        refine lv_imul hx hb dX8_reachesSomeStair_24 ?_
        refine lv_topi (fun z_3 ez_3 => ?_)
        obtain rfl : z_3 = nI (bn * 4) := ez_3.trans (pk_mul bn 4)
        refine lv_iload_n hx hb dX8_reachesSomeStair_25 rfl (lv_at hl 3 rfl) ?_
        refine lv_iadd hx hb dX8_reachesSomeStair_26 ?_
        refine lv_topi (fun z_4 ez_4 => ?_)
        obtain rfl : z_4 = nI (bn * 4 + t) := ez_4.trans (nI_add (bn * 4) t)
        refine m_iald hx hb hK hP 1 0 rfl rfl (bn * 4 + t) rfl (by omega) (by decide) dX8_reachesSomeStair_27 ?_
        refine lv_topi (fun v_5 ev_5 => ?_)
        refine lv_iconst (v := -1) hx hb dX8_reachesSomeStair_28 (by decide) ?_
        refine lv_icmp_eq (tgt := 34) hx hb dX8_reachesSomeStair_29 (by decide) (fun c_6 => ?_) (fun c_6 => ?_)
        · skip
          refine lv_iinc (v := nI (t + 1)) (lv' := [(3, Value.int (nI (t + 1))), (0, Value.ref h0), (1, Value.ref fa), (2, Value.int (nI bn))]) hx hb dX8_reachesSomeStair_34 hl (k := 3) rfl (nI_add t 1) (by decide) rfl (fun ls hl => ?_)
          refine lv_goto (tgt := 2) hx hb dX8_reachesSomeStair_37 (by decide) ?_
          exact ih (t + 1) (by omega) (by omega) (by omega) H locs (hP.sub [0, 1, 2, 3] rfl) (hD.sub [0, 1, 2, 3] (by decide) rfl) hS ls (lv_sub hl [1, 2, 3, 0] rfl)
        · skip
          exact kx_32   H locs (hP.sub [0, 1, 2, 3] rfl) (hD.sub [0, 1, 2, 3] (by decide) rfl) hS ls (lv_sub hl [] rfl)
theorem dX8_reachesSomeStair_0 : decode cX8_reachesSomeStair 0 = .ok (.iconst 0, 1) := by decide +kernel
theorem dX8_reachesSomeStair_1 : decode cX8_reachesSomeStair 1 = .ok (.istore_n 3, 1) := by decide +kernel
theorem dX8_reachesSomeStair_32 : decode cX8_reachesSomeStair 32 = .ok (.iconst 1, 1) := by decide +kernel
theorem dX8_reachesSomeStair_33 : decode cX8_reachesSomeStair 33 = .ok (.ireturn, 1) := by decide +kernel
theorem dX8_reachesSomeStair_40 : decode cX8_reachesSomeStair 40 = .ok (.iconst 0, 1) := by decide +kernel
theorem dX8_reachesSomeStair_41 : decode cX8_reachesSomeStair 41 = .ok (.ireturn, 1) := by decide +kernel
set_option maxHeartbeats 4000000 in
set_option maxRecDepth 100000 in
theorem c_reaches (l : Launch) (D : va_G) (h0 : Nat) (fa : Nat) (cu : Nat) (rv : Nat) (bt : Nat) (wy1 : Nat) (wy2 : Nat) (wy3 : Nat) (wy4 : Nat) (cu1 : Nat) (cu2 : Nat) (cu3 : Nat) (cu4 : Nat) (wc3 : ClassId) (s3 : Nat → Int32) (qd : Int32) (cr : Int32) (sc : Int32) (to : Int32) (bc : Nat) (ho : Int32) (fe : Int32) (bn : Nat) (hn : bn < 10) : cI l yX8_reachesSomeStair (.code yX8_reachesSomeStair cX8_reachesSomeStair 4 (some .boolean)) ({ frames := 0, cells := 0, slots := 0, locals := 0 }) D [(wc3, .int)] [(h0, Sum.inr (7, [Value.ref wy1, Value.ref wy2, Value.int qd, Value.ref wy3, Value.ref wy4, Value.int cr])), (wy3, Sum.inl (wc3, 40, Sum.inl s3)), (fa, Sum.inr (3, [Value.ref cu, Value.ref rv, Value.ref bt, Value.int (nI bc), Value.int ho, Value.int fe])), (cu, Sum.inr (1, [Value.ref cu1, Value.ref cu2, Value.ref cu3, Value.ref cu4, Value.int sc, Value.int to]))] xT [Value.ref h0, Value.ref fa, Value.int (nI bn)] (S := Unit) (fun r _ => r = 0 ∨ r = 1) (fun _ => []) (fun _ => [(h0, Sum.inr (7, [Value.ref wy1, Value.ref wy2, Value.int qd, Value.ref wy3, Value.ref wy4, Value.int cr])), (wy3, Sum.inl (wc3, 40, Sum.inl s3)), (fa, Sum.inr (3, [Value.ref cu, Value.ref rv, Value.ref bt, Value.int (nI bc), Value.int ho, Value.int fe])), (cu, Sum.inr (1, [Value.ref cu1, Value.ref cu2, Value.ref cu3, Value.ref cu4, Value.int sc, Value.int to]))]) := by
  intro sz
  refine Met.ofW (cc := cX8_reachesSomeStair) (maxL := 4) (ret := (some .boolean)) (by decide) rfl ?_
  intro p e s m args below meth c s₁ B hml hv
  obtain ⟨rfl, hsz, hP, hK, hD0, hX⟩ := hv
  have hx := B.exec
  have hb := B.bytes
  have hr := B.returns
  have hts0 := atoms_spec (ws := .code yX8_reachesSomeStair cX8_reachesSomeStair 4 (some .boolean) :: gw) B.pre
  have hts := fun (w : Cond) (h : w ∈ gw) => hts0 w (List.mem_cons_of_mem _ h)
  have hown : s.vm.findClass RX8 = some m.cls := findClass_of_methodNamed B.named
  have hlocks := B.notSynchronized
  have F : mFix p s m _ c cX8_reachesSomeStair 4 RX8 := ⟨hx, hb, hml, hown, hts⟩
  subst hsz
  have hD := hD0.self (sz := s.heap.size)
  generalize hAe : va_A [(h0, Sum.inr (7, [Value.ref wy1, Value.ref wy2, Value.int qd, Value.ref wy3, Value.ref wy4, Value.int cr])), (wy3, Sum.inl (wc3, 40, Sum.inl s3)), (fa, Sum.inr (3, [Value.ref cu, Value.ref rv, Value.ref bt, Value.int (nI bc), Value.int ho, Value.int fe])), (cu, Sum.inr (1, [Value.ref cu1, Value.ref cu2, Value.ref cu3, Value.ref cu4, Value.int sc, Value.int to]))] s.heap.size = A at hD hX ⊢
  have hA : ∀ q : Nat, s.heap.size ≤ q → A q := fun q h => by rw [← hAe]; exact Or.inr h
  have hS : va_S A s.heap s.heap [] := va_S.rf
  have hl := lv_entry ([Value.ref h0, Value.ref fa, Value.int (nI bn)]) (n := 4) (Nat.le_of_ble_eq_true rfl)
  rw [lg_entry_eq]
  generalize (lg_sl ([Value.ref h0, Value.ref fa, Value.int (nI bn)]) ++ List.replicate (4 - (lg_sl ([Value.ref h0, Value.ref fa, Value.int (nI bn)])).length) Slot.unset).toArray = ls at hl ⊢
  have hl : lv_has ls 4 [(0, Value.ref h0), (1, Value.ref fa), (2, Value.int (nI bn))] := hl
  have hP : va_P D vwCl [(h0, Sum.inr (7, [Value.ref wy1, Value.ref wy2, Value.int qd, Value.ref wy3, Value.ref wy4, Value.int cr])), (wy3, Sum.inl (wc3, 40, Sum.inl s3)), (fa, Sum.inr (3, [Value.ref cu, Value.ref rv, Value.ref bt, Value.int (nI bc), Value.int ho, Value.int fe])), (cu, Sum.inr (1, [Value.ref cu1, Value.ref cu2, Value.ref cu3, Value.ref cu4, Value.int sc, Value.int to]))] s.heap := hP
  refine lv_iconst (v := 0) hx hb dX8_reachesSomeStair_0 (by decide) ?_
  refine lv_istore_n (lv' := [(3, Value.int 0), (0, Value.ref h0), (1, Value.ref fa), (2, Value.int (nI bn))]) hx hb dX8_reachesSomeStair_1 rfl hl (by decide) rfl (fun ls hl => ?_)
  refine lp_reaches F hA h0 fa cu rv bt wy1 wy2 wy3 wy4 cu1 cu2 cu3 cu4 wc3 s3 qd cr sc to bc ho fe bn (hK.sub [0] rfl) (fun   H locs hP hD hS ls hl => ?_) (fun   H locs hP hD hS ls hl => ?_) _ 0 (by omega) (by omega) (Nat.lt_succ_self _) _ _ (hP.sub [0, 1, 2, 3] rfl) (hD.sub [0, 1, 2, 3] (by decide) rfl) hS ls (lv_sub hl [1, 2, 3, 0] rfl)
  · skip
    refine lv_iconst (v := 1) hx hb dX8_reachesSomeStair_32 (by decide) ?_
    have hP9 := hP.sub (ws' := [(h0, Sum.inr (7, [Value.ref wy1, Value.ref wy2, Value.int qd, Value.ref wy3, Value.ref wy4, Value.int cr])), (wy3, Sum.inl (wc3, 40, Sum.inl s3)), (fa, Sum.inr (3, [Value.ref cu, Value.ref rv, Value.ref bt, Value.int (nI bc), Value.int ho, Value.int fe])), (cu, Sum.inr (1, [Value.ref cu1, Value.ref cu2, Value.ref cu3, Value.ref cu4, Value.int sc, Value.int to]))]) [0, 1, 2, 3] rfl
    have hD9 := hD.sub (ws' := [(h0, Sum.inr (7, [Value.ref wy1, Value.ref wy2, Value.int qd, Value.ref wy3, Value.ref wy4, Value.int cr])), (wy3, Sum.inl (wc3, 40, Sum.inl s3)), (fa, Sum.inr (3, [Value.ref cu, Value.ref rv, Value.ref bt, Value.int (nI bc), Value.int ho, Value.int fe])), (cu, Sum.inr (1, [Value.ref cu1, Value.ref cu2, Value.ref cu3, Value.ref cu4, Value.int sc, Value.int to]))]) [0, 1, 2, 3] (by decide) rfl
    have hK9 := hK.sub (tys' := []) [] rfl
    refine W.widen (k := 0) (n := 0) (by decide) (by decide) ?_
    exact W.zret (v := 1) hx hb hr rfl (fun t ht hW => ⟨⟨1, (), rfl, Or.inr rfl, by rw [ht]; exact hP9, va_K.moved hW.alike hK9, hD9⟩, hS.F ht⟩) hS.2.2 dX8_reachesSomeStair_33
  · skip
    refine lv_iconst (v := 0) hx hb dX8_reachesSomeStair_40 (by decide) ?_
    have hP9 := hP.sub (ws' := [(h0, Sum.inr (7, [Value.ref wy1, Value.ref wy2, Value.int qd, Value.ref wy3, Value.ref wy4, Value.int cr])), (wy3, Sum.inl (wc3, 40, Sum.inl s3)), (fa, Sum.inr (3, [Value.ref cu, Value.ref rv, Value.ref bt, Value.int (nI bc), Value.int ho, Value.int fe])), (cu, Sum.inr (1, [Value.ref cu1, Value.ref cu2, Value.ref cu3, Value.ref cu4, Value.int sc, Value.int to]))]) [0, 1, 2, 3] rfl
    have hD9 := hD.sub (ws' := [(h0, Sum.inr (7, [Value.ref wy1, Value.ref wy2, Value.int qd, Value.ref wy3, Value.ref wy4, Value.int cr])), (wy3, Sum.inl (wc3, 40, Sum.inl s3)), (fa, Sum.inr (3, [Value.ref cu, Value.ref rv, Value.ref bt, Value.int (nI bc), Value.int ho, Value.int fe])), (cu, Sum.inr (1, [Value.ref cu1, Value.ref cu2, Value.ref cu3, Value.ref cu4, Value.int sc, Value.int to]))]) [0, 1, 2, 3] (by decide) rfl
    have hK9 := hK.sub (tys' := []) [] rfl
    refine W.widen (k := 0) (n := 0) (by decide) (by decide) ?_
    exact W.zret (v := 0) hx hb hr rfl (fun t ht hW => ⟨⟨0, (), rfl, Or.inl rfl, by rw [ht]; exact hP9, va_K.moved hW.alike hK9, hD9⟩, hS.F ht⟩) hS.2.2 dX8_reachesSomeStair_41
theorem dX8_hasSomebodyStuck_2 : decode cX8_hasSomebodyStuck 2 = .ok (.iload_n 2, 1) := by decide +kernel
theorem dX8_hasSomebodyStuck_3 : decode cX8_hasSomebodyStuck 3 = .ok (.aload_n 1, 1) := by decide +kernel
theorem dX8_hasSomebodyStuck_4 : decode cX8_hasSomebodyStuck 4 = .ok (.getfield 71, 3) := by decide +kernel
theorem dX8_hasSomebodyStuck_7 : decode cX8_hasSomebodyStuck 7 = .ok (.if_icmp .ge 38, 3) := by decide +kernel
theorem dX8_hasSomebodyStuck_10 : decode cX8_hasSomebodyStuck 10 = .ok (.iload_n 2, 1) := by decide +kernel
theorem dX8_hasSomebodyStuck_11 : decode cX8_hasSomebodyStuck 11 = .ok (.bipush 10, 2) := by decide +kernel
theorem dX8_hasSomebodyStuck_13 : decode cX8_hasSomebodyStuck 13 = .ok (.if_icmp .ge 32, 3) := by decide +kernel
theorem dX8_hasSomebodyStuck_16 : decode cX8_hasSomebodyStuck 16 = .ok (.aload_n 0, 1) := by decide +kernel
theorem dX8_hasSomebodyStuck_17 : decode cX8_hasSomebodyStuck 17 = .ok (.getfield 74, 3) := by decide +kernel
theorem dX8_hasSomebodyStuck_20 : decode cX8_hasSomebodyStuck 20 = .ok (.iload_n 2, 1) := by decide +kernel
theorem dX8_hasSomebodyStuck_21 : decode cX8_hasSomebodyStuck 21 = .ok (.ishr, 1) := by decide +kernel
theorem dX8_hasSomebodyStuck_22 : decode cX8_hasSomebodyStuck 22 = .ok (.iconst 1, 1) := by decide +kernel
theorem dX8_hasSomebodyStuck_23 : decode cX8_hasSomebodyStuck 23 = .ok (.iand, 1) := by decide +kernel
theorem dX8_hasSomebodyStuck_24 : decode cX8_hasSomebodyStuck 24 = .ok (.iconst 1, 1) := by decide +kernel
theorem dX8_hasSomebodyStuck_25 : decode cX8_hasSomebodyStuck 25 = .ok (.if_icmp .ne 14, 3) := by decide +kernel
theorem dX8_hasSomebodyStuck_39 : decode cX8_hasSomebodyStuck 39 = .ok (.iinc 2 1, 3) := by decide +kernel
theorem dX8_hasSomebodyStuck_42 : decode cX8_hasSomebodyStuck 42 = .ok (.goto (-40), 3) := by decide +kernel
theorem dX8_hasSomebodyStuck_28 : decode cX8_hasSomebodyStuck 28 = .ok (.aload_n 0, 1) := by decide +kernel
theorem dX8_hasSomebodyStuck_29 : decode cX8_hasSomebodyStuck 29 = .ok (.aload_n 1, 1) := by decide +kernel
theorem dX8_hasSomebodyStuck_30 : decode cX8_hasSomebodyStuck 30 = .ok (.iload_n 2, 1) := by decide +kernel
theorem kw_4_33 : Cond.methodLink RX8 98 yX8_reachesSomeStair ∈ gw := gw_t4 (List.mem_of_getElem? (i := 33) (by decide +kernel)) (by decide +kernel)
theorem kw_4_35 : Cond.instanceMethod yX8_reachesSomeStair ∈ gw := gw_t4 (List.mem_of_getElem? (i := 35) (by decide +kernel)) (by decide +kernel)
theorem ks_2_12 : Cond.selects RX8 yX8_reachesSomeStair yX8_reachesSomeStair ∈ gw := gw_s (y := yX8_reachesSomeStair) (n := 6) (List.mem_append_right _ (List.mem_append_left _ (List.mem_of_getElem? (i := 12) (by decide +kernel))))
theorem kw_4_36 : Cond.code yX8_reachesSomeStair cX8_reachesSomeStair 4 (some .boolean) ∈ gw := gw_t4 (List.mem_of_getElem? (i := 36) (by decide +kernel)) (by decide +kernel)
theorem gk_X8_98 : GoodIn gw (wsV RX8 98 RX8 yX8_reachesSomeStair (.code yX8_reachesSomeStair cX8_reachesSomeStair 4 (some .boolean) :: gw)) ∧ (yX8_reachesSomeStair.cls = RX8 ∧ yX8_reachesSomeStair.cls ≠ "java/lang/invoke/MethodHandle" ∧ yX8_reachesSomeStair.cls ≠ "java/lang/invoke/VarHandle" ∧ (parseMethodDescriptor yX8_reachesSomeStair.desc).map (fun d => d.parameters.length) = some 2) := ⟨gi_V kw_4_33 kw_4_35 ks_2_12 kw_1_10 kw_4_36, by decide +kernel⟩
theorem dX8_hasSomebodyStuck_31 : decode cX8_hasSomebodyStuck 31 = .ok (.invokevirtual 98, 3) := by decide +kernel
theorem dX8_hasSomebodyStuck_34 : decode cX8_hasSomebodyStuck 34 = .ok (.ifCond .ne 5, 3) := by decide +kernel
set_option maxHeartbeats 4000000 in
set_option maxRecDepth 100000 in
theorem lp_stuck {p : Program} {l : Launch} {e : Env} {s : State} {m : MethodId} {args : Array Value} {below : List Frame} {meth : Method} {c : Code} {Q : State → Prop} {A : Nat → Prop} {D : va_G} (F : mFix p s m args c cX8_hasSomebodyStuck 3 RX8) (hA : ∀ q, s.heap.size ≤ q → A q) (h0 : Nat) (fa : Nat) (cu : Nat) (rv : Nat) (bt : Nat) (wy1 : Nat) (wy2 : Nat) (wy3 : Nat) (wy4 : Nat) (cu1 : Nat) (cu2 : Nat) (cu3 : Nat) (cu4 : Nat) (wc3 : ClassId) (s3 : Nat → Int32) (qd : Int32) (cr : Int32) (sc : Int32) (to : Int32) (bc : Nat) (ho : Int32) (fe : Int32) (hK : va_K D vwCl [(wc3, .int)] s)
    (kx_37 : ∀ (H : Heap) (locs : List Loc), va_P D vwCl [(h0, Sum.inr (7, [Value.ref wy1, Value.ref wy2, Value.int qd, Value.ref wy3, Value.ref wy4, Value.int cr])), (wy3, Sum.inl (wc3, 40, Sum.inl s3)), (fa, Sum.inr (3, [Value.ref cu, Value.ref rv, Value.ref bt, Value.int (nI bc), Value.int ho, Value.int fe])), (cu, Sum.inr (1, [Value.ref cu1, Value.ref cu2, Value.ref cu3, Value.ref cu4, Value.int sc, Value.int to]))] H → va_D A [(h0, Sum.inr (7, [Value.ref wy1, Value.ref wy2, Value.int qd, Value.ref wy3, Value.ref wy4, Value.int cr])), (wy3, Sum.inl (wc3, 40, Sum.inl s3)), (fa, Sum.inr (3, [Value.ref cu, Value.ref rv, Value.ref bt, Value.int (nI bc), Value.int ho, Value.int fe])), (cu, Sum.inr (1, [Value.ref cu1, Value.ref cu2, Value.ref cu3, Value.ref cu4, Value.int sc, Value.int to]))] → va_S A s.heap H locs → ∀ ls : Array Slot, lv_has ls 3 [] → W p l e ({ frames := 1, cells := 0, slots := 0, locals := 23 }) s m args below meth c H locs 0 0 Q (F0 m 37 ls []))
    (kx_45 : ∀ (H : Heap) (locs : List Loc), va_P D vwCl [(h0, Sum.inr (7, [Value.ref wy1, Value.ref wy2, Value.int qd, Value.ref wy3, Value.ref wy4, Value.int cr])), (wy3, Sum.inl (wc3, 40, Sum.inl s3)), (fa, Sum.inr (3, [Value.ref cu, Value.ref rv, Value.ref bt, Value.int (nI bc), Value.int ho, Value.int fe])), (cu, Sum.inr (1, [Value.ref cu1, Value.ref cu2, Value.ref cu3, Value.ref cu4, Value.int sc, Value.int to]))] H → va_D A [(h0, Sum.inr (7, [Value.ref wy1, Value.ref wy2, Value.int qd, Value.ref wy3, Value.ref wy4, Value.int cr])), (wy3, Sum.inl (wc3, 40, Sum.inl s3)), (fa, Sum.inr (3, [Value.ref cu, Value.ref rv, Value.ref bt, Value.int (nI bc), Value.int ho, Value.int fe])), (cu, Sum.inr (1, [Value.ref cu1, Value.ref cu2, Value.ref cu3, Value.ref cu4, Value.int sc, Value.int to]))] → va_S A s.heap H locs → ∀ ls : Array Slot, lv_has ls 3 [] → W p l e ({ frames := 1, cells := 0, slots := 0, locals := 23 }) s m args below meth c H locs 0 0 Q (F0 m 45 ls [])) :
    ∀ n : Nat, ∀ (i : Nat), (i ≤ bc) → (bc ≤ 10) → (bc - i) < n → ∀ (H : Heap) (locs : List Loc), va_P D vwCl [(h0, Sum.inr (7, [Value.ref wy1, Value.ref wy2, Value.int qd, Value.ref wy3, Value.ref wy4, Value.int cr])), (wy3, Sum.inl (wc3, 40, Sum.inl s3)), (fa, Sum.inr (3, [Value.ref cu, Value.ref rv, Value.ref bt, Value.int (nI bc), Value.int ho, Value.int fe])), (cu, Sum.inr (1, [Value.ref cu1, Value.ref cu2, Value.ref cu3, Value.ref cu4, Value.int sc, Value.int to]))] H → va_D A [(h0, Sum.inr (7, [Value.ref wy1, Value.ref wy2, Value.int qd, Value.ref wy3, Value.ref wy4, Value.int cr])), (wy3, Sum.inl (wc3, 40, Sum.inl s3)), (fa, Sum.inr (3, [Value.ref cu, Value.ref rv, Value.ref bt, Value.int (nI bc), Value.int ho, Value.int fe])), (cu, Sum.inr (1, [Value.ref cu1, Value.ref cu2, Value.ref cu3, Value.ref cu4, Value.int sc, Value.int to]))] → va_S A s.heap H locs → ∀ ls : Array Slot, lv_has ls 3 [(0, Value.ref h0), (1, Value.ref fa), (2, Value.int (nI i))] → W p l e ({ frames := 1, cells := 0, slots := 0, locals := 23 }) s m args below meth c H locs 0 0 Q (F0 m 2 ls []) := by
  intro n
  induction n with
  | zero => intro i hi hbc hn; exact absurd hn (Nat.not_lt_zero _)
  | succ n ih =>
    intro i hi hbc hn H locs hP hD hS ls hl
    obtain ⟨hx, hb, hml, hown, hts⟩ := id F
    refine lv_iload_n hx hb dX8_hasSomebodyStuck_2 rfl (lv_at hl 2 rfl) ?_
    refine lv_aload_n hx hb dX8_hasSomebodyStuck_3 rfl (lv_at hl 1 rfl) ?_
    refine va_get (D := D) (ci := 3) (v := Value.int (nI bc)) (C := RX3) (T := TX3) (N := 6) hx hb hts inG_X3 hown hK hP 2 rfl rfl 3 (by decide) (hts _ kw_1_228) (fun _ h9 => h9) rfl dX8_hasSomebodyStuck_4 ?_
    refine lv_icmp_ge (tgt := 45) hx hb dX8_hasSomebodyStuck_7 (by decide) (fun c_1 => ?_) (fun c_1 => ?_)
    · skip
      have c_1n : bc ≤ i := (nI_leI (by omega) (by omega)).mp c_1
      have c_1 := Int32.not_lt.mpr c_1
      exact kx_45   H locs (hP.sub [0, 1, 2, 3] rfl) (hD.sub [0, 1, 2, 3] (by decide) rfl) hS ls (lv_sub hl [] rfl)
    · skip
      have c_1n : i < bc := nb_le (by omega) (by omega) c_1
      have c_1 := Int32.not_le.mp c_1
      refine lv_iload_n hx hb dX8_hasSomebodyStuck_10 rfl (lv_at hl 2 rfl) ?_
      refine lv_bipush (v := 10) hx hb dX8_hasSomebodyStuck_11 (by decide) ?_
      refine lv_icmp_ge (tgt := 45) hx hb dX8_hasSomebodyStuck_13 (by decide) (fun c_2 => ?_) (fun c_2 => ?_)
      · skip
        have c_2n : 10 ≤ i := (nI_leI (by omega) (by omega)).mp c_2
        have c_2 := Int32.not_lt.mpr c_2
        exact kx_45   H locs (hP.sub [0, 1, 2, 3] rfl) (hD.sub [0, 1, 2, 3] (by decide) rfl) hS ls (lv_sub hl [] rfl)
      · skip
        have c_2n : i < 10 := nb_le (by omega) (by omega) c_2
        have c_2 := Int32.not_le.mp c_2
        refine lv_aload_n hx hb dX8_hasSomebodyStuck_16 rfl (lv_at hl 0 rfl) ?_
        refine va_get (D := D) (ci := 7) (v := Value.int cr) (C := RX8) (T := TX8) (N := 6) hx hb hts inG_X8 hown hK hP 0 rfl rfl 5 (by decide) (hts _ kw_2_53) (fun _ h9 => h9) rfl dX8_hasSomebodyStuck_17 ?_
        refine lv_iload_n hx hb dX8_hasSomebodyStuck_20 rfl (lv_at hl 2 rfl) ?_
        refine lv_ishr hx hb dX8_hasSomebodyStuck_21 ?_
        refine lv_topi (fun z_3 ez_3 => ?_)
        refine lv_iconst (v := 1) hx hb dX8_hasSomebodyStuck_22 (by decide) ?_
        refine lv_iand hx hb dX8_hasSomebodyStuck_23 ?_
        refine lv_topi (fun z_4 ez_4 => ?_)
        refine lv_iconst (v := 1) hx hb dX8_hasSomebodyStuck_24 (by decide) ?_
        refine lv_icmp_ne (tgt := 39) hx hb dX8_hasSomebodyStuck_25 (by decide) (fun c_5 => ?_) (fun c_5 => ?_)
        · skip
          refine lv_iinc (v := nI (i + 1)) (lv' := [(2, Value.int (nI (i + 1))), (0, Value.ref h0), (1, Value.ref fa)]) hx hb dX8_hasSomebodyStuck_39 hl (k := 2) rfl (nI_add i 1) (by decide) rfl (fun ls hl => ?_)
          refine lv_goto (tgt := 2) hx hb dX8_hasSomebodyStuck_42 (by decide) ?_
          exact ih (i + 1) (by omega) (by omega) (by omega) H locs (hP.sub [0, 1, 2, 3] rfl) (hD.sub [0, 1, 2, 3] (by decide) rfl) hS ls (lv_sub hl [1, 2, 0] rfl)
        · skip
          refine lv_aload_n hx hb dX8_hasSomebodyStuck_28 rfl (lv_at hl 0 rfl) ?_
          refine lv_aload_n hx hb dX8_hasSomebodyStuck_29 rfl (lv_at hl 1 rfl) ?_
          refine lv_iload_n hx hb dX8_hasSomebodyStuck_30 rfl (lv_at hl 2 rfl) ?_
          refine mc_Vi (rest := []) (wr := []) F hK hP hD hS hA (c_reaches l D h0 fa cu rv bt wy1 wy2 wy3 wy4 cu1 cu2 cu3 cu4 wc3 s3 qd cr sc to bc ho fe i (by omega)) ⟨gk_X8_98.1, gk_X8_98.2, Nat.le_of_ble_eq_true rfl, Nat.le_of_ble_eq_true rfl⟩ [0, 1, 2, 3] [] [0] ⟨rfl, rfl, rfl, rfl, by decide⟩ rfl xT_move (fun _ _ _ => trivial) 0 rfl rfl rfl hl.1 rfl (Nat.le_of_ble_eq_true rfl) dX8_hasSomebodyStuck_31 ⟨Nat.le_of_ble_eq_true rfl, Nat.le_of_ble_eq_true rfl⟩ (fun r_6 _ H locs hw hK1 hP hD hS => ?_)
          have hP : va_P D vwCl [(h0, Sum.inr (7, [Value.ref wy1, Value.ref wy2, Value.int qd, Value.ref wy3, Value.ref wy4, Value.int cr])), (wy3, Sum.inl (wc3, 40, Sum.inl s3)), (fa, Sum.inr (3, [Value.ref cu, Value.ref rv, Value.ref bt, Value.int (nI bc), Value.int ho, Value.int fe])), (cu, Sum.inr (1, [Value.ref cu1, Value.ref cu2, Value.ref cu3, Value.ref cu4, Value.int sc, Value.int to]))] H := hP
          have hD : va_D A [(h0, Sum.inr (7, [Value.ref wy1, Value.ref wy2, Value.int qd, Value.ref wy3, Value.ref wy4, Value.int cr])), (wy3, Sum.inl (wc3, 40, Sum.inl s3)), (fa, Sum.inr (3, [Value.ref cu, Value.ref rv, Value.ref bt, Value.int (nI bc), Value.int ho, Value.int fe])), (cu, Sum.inr (1, [Value.ref cu1, Value.ref cu2, Value.ref cu3, Value.ref cu4, Value.int sc, Value.int to]))] := hD
          have hw_7 : r_6 = 0 ∨ r_6 = 1 := hw
          refine lv_if_ne (tgt := 39) hx hb dX8_hasSomebodyStuck_34 (by decide) (fun c_8 => ?_) (fun c_8 => ?_)
          · skip
            refine lv_iinc (v := nI (i + 1)) (lv' := [(2, Value.int (nI (i + 1))), (0, Value.ref h0), (1, Value.ref fa)]) hx hb dX8_hasSomebodyStuck_39 hl (k := 2) rfl (nI_add i 1) (by decide) rfl (fun ls hl => ?_)
            refine lv_goto (tgt := 2) hx hb dX8_hasSomebodyStuck_42 (by decide) ?_
            exact ih (i + 1) (by omega) (by omega) (by omega) H locs (hP.sub [0, 1, 2, 3] rfl) (hD.sub [0, 1, 2, 3] (by decide) rfl) hS ls (lv_sub hl [1, 2, 0] rfl)
          · skip
            exact kx_37   H locs (hP.sub [0, 1, 2, 3] rfl) (hD.sub [0, 1, 2, 3] (by decide) rfl) hS ls (lv_sub hl [] rfl)
theorem dX8_hasSomebodyStuck_0 : decode cX8_hasSomebodyStuck 0 = .ok (.iconst 0, 1) := by decide +kernel
theorem dX8_hasSomebodyStuck_1 : decode cX8_hasSomebodyStuck 1 = .ok (.istore_n 2, 1) := by decide +kernel
theorem dX8_hasSomebodyStuck_37 : decode cX8_hasSomebodyStuck 37 = .ok (.iconst 1, 1) := by decide +kernel
theorem dX8_hasSomebodyStuck_38 : decode cX8_hasSomebodyStuck 38 = .ok (.ireturn, 1) := by decide +kernel
theorem dX8_hasSomebodyStuck_45 : decode cX8_hasSomebodyStuck 45 = .ok (.iconst 0, 1) := by decide +kernel
theorem dX8_hasSomebodyStuck_46 : decode cX8_hasSomebodyStuck 46 = .ok (.ireturn, 1) := by decide +kernel
set_option maxHeartbeats 4000000 in
set_option maxRecDepth 100000 in
theorem c_stuck (l : Launch) (D : va_G) (h0 : Nat) (fa : Nat) (cu : Nat) (rv : Nat) (bt : Nat) (wy1 : Nat) (wy2 : Nat) (wy3 : Nat) (wy4 : Nat) (cu1 : Nat) (cu2 : Nat) (cu3 : Nat) (cu4 : Nat) (wc3 : ClassId) (s3 : Nat → Int32) (qd : Int32) (cr : Int32) (sc : Int32) (to : Int32) (bc : Nat) (ho : Int32) (fe : Int32) (hbc : bc ≤ 10) : cI l yX8_hasSomebodyStuck (.code yX8_hasSomebodyStuck cX8_hasSomebodyStuck 3 (some .boolean)) ({ frames := 1, cells := 0, slots := 0, locals := 23 }) D [(wc3, .int)] [(h0, Sum.inr (7, [Value.ref wy1, Value.ref wy2, Value.int qd, Value.ref wy3, Value.ref wy4, Value.int cr])), (wy3, Sum.inl (wc3, 40, Sum.inl s3)), (fa, Sum.inr (3, [Value.ref cu, Value.ref rv, Value.ref bt, Value.int (nI bc), Value.int ho, Value.int fe])), (cu, Sum.inr (1, [Value.ref cu1, Value.ref cu2, Value.ref cu3, Value.ref cu4, Value.int sc, Value.int to]))] xT [Value.ref h0, Value.ref fa] (S := Unit) (fun r _ => r = 0 ∨ r = 1) (fun _ => []) (fun _ => [(h0, Sum.inr (7, [Value.ref wy1, Value.ref wy2, Value.int qd, Value.ref wy3, Value.ref wy4, Value.int cr])), (wy3, Sum.inl (wc3, 40, Sum.inl s3)), (fa, Sum.inr (3, [Value.ref cu, Value.ref rv, Value.ref bt, Value.int (nI bc), Value.int ho, Value.int fe])), (cu, Sum.inr (1, [Value.ref cu1, Value.ref cu2, Value.ref cu3, Value.ref cu4, Value.int sc, Value.int to]))]) := by
  intro sz
  refine Met.ofW (cc := cX8_hasSomebodyStuck) (maxL := 3) (ret := (some .boolean)) (by decide) rfl ?_
  intro p e s m args below meth c s₁ B hml hv
  obtain ⟨rfl, hsz, hP, hK, hD0, hX⟩ := hv
  have hx := B.exec
  have hb := B.bytes
  have hr := B.returns
  have hts0 := atoms_spec (ws := .code yX8_hasSomebodyStuck cX8_hasSomebodyStuck 3 (some .boolean) :: gw) B.pre
  have hts := fun (w : Cond) (h : w ∈ gw) => hts0 w (List.mem_cons_of_mem _ h)
  have hown : s.vm.findClass RX8 = some m.cls := findClass_of_methodNamed B.named
  have hlocks := B.notSynchronized
  have F : mFix p s m _ c cX8_hasSomebodyStuck 3 RX8 := ⟨hx, hb, hml, hown, hts⟩
  subst hsz
  have hD := hD0.self (sz := s.heap.size)
  generalize hAe : va_A [(h0, Sum.inr (7, [Value.ref wy1, Value.ref wy2, Value.int qd, Value.ref wy3, Value.ref wy4, Value.int cr])), (wy3, Sum.inl (wc3, 40, Sum.inl s3)), (fa, Sum.inr (3, [Value.ref cu, Value.ref rv, Value.ref bt, Value.int (nI bc), Value.int ho, Value.int fe])), (cu, Sum.inr (1, [Value.ref cu1, Value.ref cu2, Value.ref cu3, Value.ref cu4, Value.int sc, Value.int to]))] s.heap.size = A at hD hX ⊢
  have hA : ∀ q : Nat, s.heap.size ≤ q → A q := fun q h => by rw [← hAe]; exact Or.inr h
  have hS : va_S A s.heap s.heap [] := va_S.rf
  have hl := lv_entry ([Value.ref h0, Value.ref fa]) (n := 3) (Nat.le_of_ble_eq_true rfl)
  rw [lg_entry_eq]
  generalize (lg_sl ([Value.ref h0, Value.ref fa]) ++ List.replicate (3 - (lg_sl ([Value.ref h0, Value.ref fa])).length) Slot.unset).toArray = ls at hl ⊢
  have hl : lv_has ls 3 [(0, Value.ref h0), (1, Value.ref fa)] := hl
  have hP : va_P D vwCl [(h0, Sum.inr (7, [Value.ref wy1, Value.ref wy2, Value.int qd, Value.ref wy3, Value.ref wy4, Value.int cr])), (wy3, Sum.inl (wc3, 40, Sum.inl s3)), (fa, Sum.inr (3, [Value.ref cu, Value.ref rv, Value.ref bt, Value.int (nI bc), Value.int ho, Value.int fe])), (cu, Sum.inr (1, [Value.ref cu1, Value.ref cu2, Value.ref cu3, Value.ref cu4, Value.int sc, Value.int to]))] s.heap := hP
  refine lv_iconst (v := 0) hx hb dX8_hasSomebodyStuck_0 (by decide) ?_
  refine lv_istore_n (lv' := [(2, Value.int 0), (0, Value.ref h0), (1, Value.ref fa)]) hx hb dX8_hasSomebodyStuck_1 rfl hl (by decide) rfl (fun ls hl => ?_)
  refine lp_stuck F hA h0 fa cu rv bt wy1 wy2 wy3 wy4 cu1 cu2 cu3 cu4 wc3 s3 qd cr sc to bc ho fe (hK.sub [0] rfl) (fun   H locs hP hD hS ls hl => ?_) (fun   H locs hP hD hS ls hl => ?_) _ 0 (by omega) (by omega) (Nat.lt_succ_self _) _ _ (hP.sub [0, 1, 2, 3] rfl) (hD.sub [0, 1, 2, 3] (by decide) rfl) hS ls (lv_sub hl [1, 2, 0] rfl)
  · skip
    refine lv_iconst (v := 1) hx hb dX8_hasSomebodyStuck_37 (by decide) ?_
    have hP9 := hP.sub (ws' := [(h0, Sum.inr (7, [Value.ref wy1, Value.ref wy2, Value.int qd, Value.ref wy3, Value.ref wy4, Value.int cr])), (wy3, Sum.inl (wc3, 40, Sum.inl s3)), (fa, Sum.inr (3, [Value.ref cu, Value.ref rv, Value.ref bt, Value.int (nI bc), Value.int ho, Value.int fe])), (cu, Sum.inr (1, [Value.ref cu1, Value.ref cu2, Value.ref cu3, Value.ref cu4, Value.int sc, Value.int to]))]) [0, 1, 2, 3] rfl
    have hD9 := hD.sub (ws' := [(h0, Sum.inr (7, [Value.ref wy1, Value.ref wy2, Value.int qd, Value.ref wy3, Value.ref wy4, Value.int cr])), (wy3, Sum.inl (wc3, 40, Sum.inl s3)), (fa, Sum.inr (3, [Value.ref cu, Value.ref rv, Value.ref bt, Value.int (nI bc), Value.int ho, Value.int fe])), (cu, Sum.inr (1, [Value.ref cu1, Value.ref cu2, Value.ref cu3, Value.ref cu4, Value.int sc, Value.int to]))]) [0, 1, 2, 3] (by decide) rfl
    have hK9 := hK.sub (tys' := []) [] rfl
    refine W.widen (k := 0) (n := 0) (by decide) (by decide) ?_
    exact W.zret (v := 1) hx hb hr rfl (fun t ht hW => ⟨⟨1, (), rfl, Or.inr rfl, by rw [ht]; exact hP9, va_K.moved hW.alike hK9, hD9⟩, hS.F ht⟩) hS.2.2 dX8_hasSomebodyStuck_38
  · skip
    refine lv_iconst (v := 0) hx hb dX8_hasSomebodyStuck_45 (by decide) ?_
    have hP9 := hP.sub (ws' := [(h0, Sum.inr (7, [Value.ref wy1, Value.ref wy2, Value.int qd, Value.ref wy3, Value.ref wy4, Value.int cr])), (wy3, Sum.inl (wc3, 40, Sum.inl s3)), (fa, Sum.inr (3, [Value.ref cu, Value.ref rv, Value.ref bt, Value.int (nI bc), Value.int ho, Value.int fe])), (cu, Sum.inr (1, [Value.ref cu1, Value.ref cu2, Value.ref cu3, Value.ref cu4, Value.int sc, Value.int to]))]) [0, 1, 2, 3] rfl
    have hD9 := hD.sub (ws' := [(h0, Sum.inr (7, [Value.ref wy1, Value.ref wy2, Value.int qd, Value.ref wy3, Value.ref wy4, Value.int cr])), (wy3, Sum.inl (wc3, 40, Sum.inl s3)), (fa, Sum.inr (3, [Value.ref cu, Value.ref rv, Value.ref bt, Value.int (nI bc), Value.int ho, Value.int fe])), (cu, Sum.inr (1, [Value.ref cu1, Value.ref cu2, Value.ref cu3, Value.ref cu4, Value.int sc, Value.int to]))]) [0, 1, 2, 3] (by decide) rfl
    have hK9 := hK.sub (tys' := []) [] rfl
    refine W.widen (k := 0) (n := 0) (by decide) (by decide) ?_
    exact W.zret (v := 0) hx hb hr rfl (fun t ht hW => ⟨⟨0, (), rfl, Or.inl rfl, by rw [ht]; exact hP9, va_K.moved hW.alike hK9, hD9⟩, hS.F ht⟩) hS.2.2 dX8_hasSomebodyStuck_46
theorem dX8_noteFirstSteps_24 : decode cX8_noteFirstSteps 24 = .ok (.iload 5, 2) := by decide +kernel
theorem dX8_noteFirstSteps_26 : decode cX8_noteFirstSteps 26 = .ok (.aload_n 1, 1) := by decide +kernel
theorem dX8_noteFirstSteps_27 : decode cX8_noteFirstSteps 27 = .ok (.getfield 71, 3) := by decide +kernel
theorem dX8_noteFirstSteps_30 : decode cX8_noteFirstSteps 30 = .ok (.if_icmp .ge 44, 3) := by decide +kernel
theorem dX8_noteFirstSteps_33 : decode cX8_noteFirstSteps 33 = .ok (.iload 5, 2) := by decide +kernel
theorem dX8_noteFirstSteps_35 : decode cX8_noteFirstSteps 35 = .ok (.bipush 10, 2) := by decide +kernel
theorem dX8_noteFirstSteps_37 : decode cX8_noteFirstSteps 37 = .ok (.if_icmp .ge 37, 3) := by decide +kernel
theorem dX8_noteFirstSteps_40 : decode cX8_noteFirstSteps 40 = .ok (.iload_n 2, 1) := by decide +kernel
theorem dX8_noteFirstSteps_41 : decode cX8_noteFirstSteps 41 = .ok (.iload 5, 2) := by decide +kernel
theorem dX8_noteFirstSteps_43 : decode cX8_noteFirstSteps 43 = .ok (.ishr, 1) := by decide +kernel
theorem dX8_noteFirstSteps_44 : decode cX8_noteFirstSteps 44 = .ok (.iconst 1, 1) := by decide +kernel
theorem dX8_noteFirstSteps_45 : decode cX8_noteFirstSteps 45 = .ok (.iand, 1) := by decide +kernel
theorem dX8_noteFirstSteps_46 : decode cX8_noteFirstSteps 46 = .ok (.iconst 1, 1) := by decide +kernel
theorem dX8_noteFirstSteps_47 : decode cX8_noteFirstSteps 47 = .ok (.if_icmp .ne 21, 3) := by decide +kernel
theorem dX8_noteFirstSteps_68 : decode cX8_noteFirstSteps 68 = .ok (.iinc 5 1, 3) := by decide +kernel
theorem dX8_noteFirstSteps_71 : decode cX8_noteFirstSteps 71 = .ok (.goto (-47), 3) := by decide +kernel
theorem dX8_noteFirstSteps_50 : decode cX8_noteFirstSteps 50 = .ok (.iload 4, 2) := by decide +kernel
theorem dX8_noteFirstSteps_52 : decode cX8_noteFirstSteps 52 = .ok (.aload_n 0, 1) := by decide +kernel
theorem dX8_noteFirstSteps_53 : decode cX8_noteFirstSteps 53 = .ok (.getfield 18, 3) := by decide +kernel
theorem dX8_noteFirstSteps_56 : decode cX8_noteFirstSteps 56 = .ok (.iload 5, 2) := by decide +kernel
theorem dX8_noteFirstSteps_58 : decode cX8_noteFirstSteps 58 = .ok (.iconst 4, 1) := by decide +kernel
theorem dX8_noteFirstSteps_59 : decode cX8_noteFirstSteps 59 = .ok (.imul, 1) := by decide +kernel
theorem dX8_noteFirstSteps_60 : decode cX8_noteFirstSteps 60 = .ok (.iload_n 3, 1) := by decide +kernel
theorem dX8_noteFirstSteps_61 : decode cX8_noteFirstSteps 61 = .ok (.iadd, 1) := by decide +kernel
theorem dX8_noteFirstSteps_62 : decode cX8_noteFirstSteps 62 = .ok (.iaload, 1) := by decide +kernel
theorem dX8_noteFirstSteps_63 : decode cX8_noteFirstSteps 63 = .ok (.invokestatic 59, 3) := by decide +kernel
theorem dX8_noteFirstSteps_66 : decode cX8_noteFirstSteps 66 = .ok (.istore 4, 2) := by decide +kernel
set_option maxHeartbeats 4000000 in
set_option maxRecDepth 100000 in
theorem lp_note_in {p : Program} {l : Launch} {e : Env} {s : State} {m : MethodId} {args : Array Value} {below : List Frame} {meth : Method} {c : Code} {Q : State → Prop} {A : Nat → Prop} {D : va_G} (F : mFix p s m args c cX8_noteFirstSteps 6 RX8) (hA : ∀ q, s.heap.size ≤ q → A q) (h0 : Nat) (fa : Nat) (cu : Nat) (rv : Nat) (bt : Nat) (wy1 : Nat) (wy2 : Nat) (wy3 : Nat) (wy4 : Nat) (cu1 : Nat) (cu2 : Nat) (cu3 : Nat) (cu4 : Nat) (wc3 : ClassId) (s3 : Nat → Int32) (qd : Int32) (cr : Int32) (sc : Int32) (to : Int32) (bc : Nat) (ho : Int32) (fe : Int32) (wc4 : ClassId) (t4 : Nat → Int32) (x : Int32) (t : Nat) (hK : va_K D vwCl [(wc3, .int), (wc4, .int)] s)
    (kx_74 : ∀ (fs : Int32), ∀ (H : Heap) (locs : List Loc), va_P D vwCl [(h0, Sum.inr (7, [Value.ref wy1, Value.ref wy2, Value.int qd, Value.ref wy3, Value.ref wy4, Value.int cr])), (wy3, Sum.inl (wc3, 40, Sum.inl s3)), (wy4, Sum.inl (wc4, 4, Sum.inl t4)), (fa, Sum.inr (3, [Value.ref cu, Value.ref rv, Value.ref bt, Value.int (nI bc), Value.int ho, Value.int fe])), (cu, Sum.inr (1, [Value.ref cu1, Value.ref cu2, Value.ref cu3, Value.ref cu4, Value.int sc, Value.int to]))] H → va_D A [(h0, Sum.inr (7, [Value.ref wy1, Value.ref wy2, Value.int qd, Value.ref wy3, Value.ref wy4, Value.int cr])), (wy3, Sum.inl (wc3, 40, Sum.inl s3)), (wy4, Sum.inl (wc4, 4, Sum.inl t4)), (fa, Sum.inr (3, [Value.ref cu, Value.ref rv, Value.ref bt, Value.int (nI bc), Value.int ho, Value.int fe])), (cu, Sum.inr (1, [Value.ref cu1, Value.ref cu2, Value.ref cu3, Value.ref cu4, Value.int sc, Value.int to]))] → va_S A s.heap H locs → ∀ ls : Array Slot, lv_has ls 6 [(0, Value.ref h0), (1, Value.ref fa), (2, Value.int x), (3, Value.int (nI t)), (4, Value.int fs)] → W p l e ({ frames := 2, cells := 0, slots := 0, locals := 81 }) s m args below meth c H locs 0 0 Q (F0 m 74 ls [])) :
    ∀ n : Nat, ∀ (fs : Int32) (i : Nat), (i ≤ bc) → (bc ≤ 10) → (t < 4) → (bc - i) < n → ∀ (H : Heap) (locs : List Loc), va_P D vwCl [(h0, Sum.inr (7, [Value.ref wy1, Value.ref wy2, Value.int qd, Value.ref wy3, Value.ref wy4, Value.int cr])), (wy3, Sum.inl (wc3, 40, Sum.inl s3)), (wy4, Sum.inl (wc4, 4, Sum.inl t4)), (fa, Sum.inr (3, [Value.ref cu, Value.ref rv, Value.ref bt, Value.int (nI bc), Value.int ho, Value.int fe])), (cu, Sum.inr (1, [Value.ref cu1, Value.ref cu2, Value.ref cu3, Value.ref cu4, Value.int sc, Value.int to]))] H → va_D A [(h0, Sum.inr (7, [Value.ref wy1, Value.ref wy2, Value.int qd, Value.ref wy3, Value.ref wy4, Value.int cr])), (wy3, Sum.inl (wc3, 40, Sum.inl s3)), (wy4, Sum.inl (wc4, 4, Sum.inl t4)), (fa, Sum.inr (3, [Value.ref cu, Value.ref rv, Value.ref bt, Value.int (nI bc), Value.int ho, Value.int fe])), (cu, Sum.inr (1, [Value.ref cu1, Value.ref cu2, Value.ref cu3, Value.ref cu4, Value.int sc, Value.int to]))] → va_S A s.heap H locs → ∀ ls : Array Slot, lv_has ls 6 [(0, Value.ref h0), (1, Value.ref fa), (2, Value.int x), (3, Value.int (nI t)), (4, Value.int fs), (5, Value.int (nI i))] → W p l e ({ frames := 2, cells := 0, slots := 0, locals := 81 }) s m args below meth c H locs 0 0 Q (F0 m 24 ls []) := by
  intro n
  induction n with
  | zero => intro fs i hi hbc ht hn; exact absurd hn (Nat.not_lt_zero _)
  | succ n ih =>
    intro fs i hi hbc ht hn H locs hP hD hS ls hl
    obtain ⟨hx, hb, hml, hown, hts⟩ := id F
    refine lv_iload hx hb dX8_noteFirstSteps_24 (lv_at hl 5 rfl) ?_
    refine lv_aload_n hx hb dX8_noteFirstSteps_26 rfl (lv_at hl 1 rfl) ?_
    refine va_get (D := D) (ci := 3) (v := Value.int (nI bc)) (C := RX3) (T := TX3) (N := 6) hx hb hts inG_X3 hown hK hP 3 rfl rfl 3 (by decide) (hts _ kw_1_228) (fun _ h9 => h9) rfl dX8_noteFirstSteps_27 ?_
    refine lv_icmp_ge (tgt := 74) hx hb dX8_noteFirstSteps_30 (by decide) (fun c_1 => ?_) (fun c_1 => ?_)
    · skip
      have c_1n : bc ≤ i := (nI_leI (by omega) (by omega)).mp c_1
      have c_1 := Int32.not_lt.mpr c_1
      exact kx_74 fs  H locs (hP.sub [0, 1, 2, 3, 4] rfl) (hD.sub [0, 1, 2, 3, 4] (by decide) rfl) hS ls (lv_sub hl [0, 1, 2, 3, 4] rfl)
    · skip
      have c_1n : i < bc := nb_le (by omega) (by omega) c_1
      have c_1 := Int32.not_le.mp c_1
      refine lv_iload hx hb dX8_noteFirstSteps_33 (lv_at hl 5 rfl) ?_
      refine lv_bipush (v := 10) hx hb dX8_noteFirstSteps_35 (by decide) ?_
      refine lv_icmp_ge (tgt := 74) hx hb dX8_noteFirstSteps_37 (by decide) (fun c_2 => ?_) (fun c_2 => ?_)
      · skip
        have c_2n : 10 ≤ i := (nI_leI (by omega) (by omega)).mp c_2
        have c_2 := Int32.not_lt.mpr c_2
        exact kx_74 fs  H locs (hP.sub [0, 1, 2, 3, 4] rfl) (hD.sub [0, 1, 2, 3, 4] (by decide) rfl) hS ls (lv_sub hl [0, 1, 2, 3, 4] rfl)
      · skip
        have c_2n : i < 10 := nb_le (by omega) (by omega) c_2
        have c_2 := Int32.not_le.mp c_2
        refine lv_iload_n hx hb dX8_noteFirstSteps_40 rfl (lv_at hl 2 rfl) ?_
        refine lv_iload hx hb dX8_noteFirstSteps_41 (lv_at hl 5 rfl) ?_
        refine lv_ishr hx hb dX8_noteFirstSteps_43 ?_
        refine lv_topi (fun z_3 ez_3 => ?_)
        refine lv_iconst (v := 1) hx hb dX8_noteFirstSteps_44 (by decide) ?_
        refine lv_iand hx hb dX8_noteFirstSteps_45 ?_
        refine lv_topi (fun z_4 ez_4 => ?_)
        refine lv_iconst (v := 1) hx hb dX8_noteFirstSteps_46 (by decide) ?_
        refine lv_icmp_ne (tgt := 68) hx hb dX8_noteFirstSteps_47 (by decide) (fun c_5 => ?_) (fun c_5 => ?_)
        · skip
          refine lv_iinc (v := nI (i + 1)) (lv' := [(5, Value.int (nI (i + 1))), (0, Value.ref h0), (1, Value.ref fa), (2, Value.int x), (3, Value.int (nI t)), (4, Value.int fs)]) hx hb dX8_noteFirstSteps_68 hl (k := 5) rfl (nI_add i 1) (by decide) rfl (fun ls hl => ?_)
          refine lv_goto (tgt := 24) hx hb dX8_noteFirstSteps_71 (by decide) ?_
          exact ih fs (i + 1) (by omega) (by omega) (by omega) (by omega) H locs (hP.sub [0, 1, 2, 3, 4] rfl) (hD.sub [0, 1, 2, 3, 4] (by decide) rfl) hS ls (lv_sub hl [1, 2, 3, 4, 5, 0] rfl)
        · skip
          refine lv_iload hx hb dX8_noteFirstSteps_50 (lv_at hl 4 rfl) ?_
          refine lv_aload_n hx hb dX8_noteFirstSteps_52 rfl (lv_at hl 0 rfl) ?_
          refine va_get (D := D) (ci := 7) (v := Value.ref wy3) (C := RX8) (T := TX8) (N := 6) hx hb hts inG_X8 hown hK hP 0 rfl rfl 3 (by decide) (hts _ kw_2_51) (fun _ h9 => h9) rfl dX8_noteFirstSteps_53 ?_
          refine lv_iload hx hb dX8_noteFirstSteps_56 (lv_at hl 5 rfl) ?_
          refine lv_iconst (v := 4) hx hb dX8_noteFirstSteps_58 (by decide) ?_
          refine lv_imul hx hb dX8_noteFirstSteps_59 ?_
          refine lv_topi (fun z_6 ez_6 => ?_)
          obtain rfl : z_6 = nI (i * 4) := ez_6.trans (pk_mul i 4)
          refine lv_iload_n hx hb dX8_noteFirstSteps_60 rfl (lv_at hl 3 rfl) ?_
          refine lv_iadd hx hb dX8_noteFirstSteps_61 ?_
          refine lv_topi (fun z_7 ez_7 => ?_)
          obtain rfl : z_7 = nI (i * 4 + t) := ez_7.trans (nI_add (i * 4) t)
          refine m_iald hx hb hK hP 1 0 rfl rfl (i * 4 + t) rfl (by omega) (by decide) dX8_noteFirstSteps_62 ?_
          refine lv_topi (fun v_8 ev_8 => ?_)
          refine mc_Si (rest := []) (wr := [(h0, Sum.inr (7, [Value.ref wy1, Value.ref wy2, Value.int qd, Value.ref wy3, Value.ref wy4, Value.int cr])), (wy3, Sum.inl (wc3, 40, Sum.inl s3)), (wy4, Sum.inl (wc4, 4, Sum.inl t4)), (fa, Sum.inr (3, [Value.ref cu, Value.ref rv, Value.ref bt, Value.int (nI bc), Value.int ho, Value.int fe])), (cu, Sum.inr (1, [Value.ref cu1, Value.ref cu2, Value.ref cu3, Value.ref cu4, Value.int sc, Value.int to]))]) F hK hP hD hS hA (c_nearer l D fs v_8 ) ⟨gk_X8_59.1, gk_X8_59.2, Nat.le_of_ble_eq_true rfl, Nat.le_of_ble_eq_true rfl⟩ [] [0, 1, 2, 3, 4] [] ⟨rfl, rfl, rfl, rfl, by decide⟩ rfl xT_move (fun _ _ _ => trivial) rfl hl.1 rfl (Nat.le_of_ble_eq_true rfl) dX8_noteFirstSteps_63 ⟨Nat.le_of_ble_eq_true rfl, Nat.le_of_ble_eq_true rfl⟩ (fun r_9 _ H locs hw hK1 hP hD hS => ?_)
          have hP : va_P D vwCl [(h0, Sum.inr (7, [Value.ref wy1, Value.ref wy2, Value.int qd, Value.ref wy3, Value.ref wy4, Value.int cr])), (wy3, Sum.inl (wc3, 40, Sum.inl s3)), (wy4, Sum.inl (wc4, 4, Sum.inl t4)), (fa, Sum.inr (3, [Value.ref cu, Value.ref rv, Value.ref bt, Value.int (nI bc), Value.int ho, Value.int fe])), (cu, Sum.inr (1, [Value.ref cu1, Value.ref cu2, Value.ref cu3, Value.ref cu4, Value.int sc, Value.int to]))] H := hP
          have hD : va_D A [(h0, Sum.inr (7, [Value.ref wy1, Value.ref wy2, Value.int qd, Value.ref wy3, Value.ref wy4, Value.int cr])), (wy3, Sum.inl (wc3, 40, Sum.inl s3)), (wy4, Sum.inl (wc4, 4, Sum.inl t4)), (fa, Sum.inr (3, [Value.ref cu, Value.ref rv, Value.ref bt, Value.int (nI bc), Value.int ho, Value.int fe])), (cu, Sum.inr (1, [Value.ref cu1, Value.ref cu2, Value.ref cu3, Value.ref cu4, Value.int sc, Value.int to]))] := hD
          have hw_10 : r_9 = r_9 := hw
          refine lv_istore (lv' := [(4, Value.int r_9), (0, Value.ref h0), (1, Value.ref fa), (2, Value.int x), (3, Value.int (nI t)), (5, Value.int (nI i))]) hx hb dX8_noteFirstSteps_66 hl (by decide) rfl (fun ls hl => ?_)
          refine lv_iinc (v := nI (i + 1)) (lv' := [(5, Value.int (nI (i + 1))), (4, Value.int r_9), (0, Value.ref h0), (1, Value.ref fa), (2, Value.int x), (3, Value.int (nI t))]) hx hb dX8_noteFirstSteps_68 hl (k := 5) rfl (nI_add i 1) (by decide) rfl (fun ls hl => ?_)
          refine lv_goto (tgt := 24) hx hb dX8_noteFirstSteps_71 (by decide) ?_
          exact ih r_9 (i + 1) (by omega) (by omega) (by omega) (by omega) H locs (hP.sub [0, 1, 2, 3, 4] rfl) (hD.sub [0, 1, 2, 3, 4] (by decide) rfl) hS ls (lv_sub hl [2, 3, 4, 5, 1, 0] rfl)
theorem dX8_noteFirstSteps_2 : decode cX8_noteFirstSteps 2 = .ok (.iload_n 3, 1) := by decide +kernel
theorem dX8_noteFirstSteps_3 : decode cX8_noteFirstSteps 3 = .ok (.aload_n 1, 1) := by decide +kernel
theorem dX8_noteFirstSteps_4 : decode cX8_noteFirstSteps 4 = .ok (.getfield 30, 3) := by decide +kernel
theorem dX8_noteFirstSteps_7 : decode cX8_noteFirstSteps 7 = .ok (.getfield 36, 3) := by decide +kernel
theorem dX8_noteFirstSteps_10 : decode cX8_noteFirstSteps 10 = .ok (.if_icmp .ge 78, 3) := by decide +kernel
theorem dX8_noteFirstSteps_13 : decode cX8_noteFirstSteps 13 = .ok (.iload_n 3, 1) := by decide +kernel
theorem dX8_noteFirstSteps_14 : decode cX8_noteFirstSteps 14 = .ok (.iconst 4, 1) := by decide +kernel
theorem dX8_noteFirstSteps_15 : decode cX8_noteFirstSteps 15 = .ok (.if_icmp .ge 73, 3) := by decide +kernel
theorem dX8_noteFirstSteps_18 : decode cX8_noteFirstSteps 18 = .ok (.iconst (-1), 1) := by decide +kernel
theorem dX8_noteFirstSteps_19 : decode cX8_noteFirstSteps 19 = .ok (.istore 4, 2) := by decide +kernel
theorem dX8_noteFirstSteps_21 : decode cX8_noteFirstSteps 21 = .ok (.iconst 0, 1) := by decide +kernel
theorem dX8_noteFirstSteps_22 : decode cX8_noteFirstSteps 22 = .ok (.istore 5, 2) := by decide +kernel
theorem dX8_noteFirstSteps_74 : decode cX8_noteFirstSteps 74 = .ok (.aload_n 0, 1) := by decide +kernel
theorem dX8_noteFirstSteps_75 : decode cX8_noteFirstSteps 75 = .ok (.getfield 21, 3) := by decide +kernel
theorem dX8_noteFirstSteps_78 : decode cX8_noteFirstSteps 78 = .ok (.iload_n 3, 1) := by decide +kernel
theorem dX8_noteFirstSteps_79 : decode cX8_noteFirstSteps 79 = .ok (.iload 4, 2) := by decide +kernel
theorem dX8_noteFirstSteps_81 : decode cX8_noteFirstSteps 81 = .ok (.iastore, 1) := by decide +kernel
theorem dX8_noteFirstSteps_82 : decode cX8_noteFirstSteps 82 = .ok (.iinc 3 1, 3) := by decide +kernel
theorem dX8_noteFirstSteps_85 : decode cX8_noteFirstSteps 85 = .ok (.goto (-83), 3) := by decide +kernel
set_option maxHeartbeats 4000000 in
set_option maxRecDepth 100000 in
theorem lp_note_out {p : Program} {l : Launch} {e : Env} {s : State} {m : MethodId} {args : Array Value} {below : List Frame} {meth : Method} {c : Code} {Q : State → Prop} {A : Nat → Prop} {D : va_G} (F : mFix p s m args c cX8_noteFirstSteps 6 RX8) (hA : ∀ q, s.heap.size ≤ q → A q) (h0 : Nat) (fa : Nat) (cu : Nat) (rv : Nat) (bt : Nat) (wy1 : Nat) (wy2 : Nat) (wy3 : Nat) (wy4 : Nat) (cu1 : Nat) (cu2 : Nat) (cu3 : Nat) (cu4 : Nat) (wc3 : ClassId) (s3 : Nat → Int32) (qd : Int32) (cr : Int32) (sc : Int32) (to : Int32) (bc : Nat) (ho : Int32) (fe : Int32) (wc4 : ClassId) (x : Int32) (hK : va_K D vwCl [(wc3, .int), (wc4, .int)] s)
    (kx_88 : ∀ (t4 : Nat → Int32), ∀ (H : Heap) (locs : List Loc), va_P D vwCl [(h0, Sum.inr (7, [Value.ref wy1, Value.ref wy2, Value.int qd, Value.ref wy3, Value.ref wy4, Value.int cr])), (wy3, Sum.inl (wc3, 40, Sum.inl s3)), (wy4, Sum.inl (wc4, 4, Sum.inl t4)), (fa, Sum.inr (3, [Value.ref cu, Value.ref rv, Value.ref bt, Value.int (nI bc), Value.int ho, Value.int fe])), (cu, Sum.inr (1, [Value.ref cu1, Value.ref cu2, Value.ref cu3, Value.ref cu4, Value.int sc, Value.int to]))] H → va_D A [(h0, Sum.inr (7, [Value.ref wy1, Value.ref wy2, Value.int qd, Value.ref wy3, Value.ref wy4, Value.int cr])), (wy3, Sum.inl (wc3, 40, Sum.inl s3)), (wy4, Sum.inl (wc4, 4, Sum.inl t4)), (fa, Sum.inr (3, [Value.ref cu, Value.ref rv, Value.ref bt, Value.int (nI bc), Value.int ho, Value.int fe])), (cu, Sum.inr (1, [Value.ref cu1, Value.ref cu2, Value.ref cu3, Value.ref cu4, Value.int sc, Value.int to]))] → va_S A s.heap H locs → ∀ ls : Array Slot, lv_has ls 6 [] → W p l e ({ frames := 2, cells := 0, slots := 0, locals := 81 }) s m args below meth c H locs 0 0 Q (F0 m 88 ls [])) :
    ∀ n : Nat, ∀ (t4 : Nat → Int32) (t : Nat), (t ≤ 4) → (bc ≤ 10) → (4 - t) < n → ∀ (H : Heap) (locs : List Loc), va_P D vwCl [(h0, Sum.inr (7, [Value.ref wy1, Value.ref wy2, Value.int qd, Value.ref wy3, Value.ref wy4, Value.int cr])), (wy3, Sum.inl (wc3, 40, Sum.inl s3)), (wy4, Sum.inl (wc4, 4, Sum.inl t4)), (fa, Sum.inr (3, [Value.ref cu, Value.ref rv, Value.ref bt, Value.int (nI bc), Value.int ho, Value.int fe])), (cu, Sum.inr (1, [Value.ref cu1, Value.ref cu2, Value.ref cu3, Value.ref cu4, Value.int sc, Value.int to]))] H → va_D A [(h0, Sum.inr (7, [Value.ref wy1, Value.ref wy2, Value.int qd, Value.ref wy3, Value.ref wy4, Value.int cr])), (wy3, Sum.inl (wc3, 40, Sum.inl s3)), (wy4, Sum.inl (wc4, 4, Sum.inl t4)), (fa, Sum.inr (3, [Value.ref cu, Value.ref rv, Value.ref bt, Value.int (nI bc), Value.int ho, Value.int fe])), (cu, Sum.inr (1, [Value.ref cu1, Value.ref cu2, Value.ref cu3, Value.ref cu4, Value.int sc, Value.int to]))] → va_S A s.heap H locs → ∀ ls : Array Slot, lv_has ls 6 [(0, Value.ref h0), (1, Value.ref fa), (2, Value.int x), (3, Value.int (nI t))] → W p l e ({ frames := 2, cells := 0, slots := 0, locals := 81 }) s m args below meth c H locs 0 0 Q (F0 m 2 ls []) := by
  intro n
  induction n with
  | zero => intro t4 t ht hbc hn; exact absurd hn (Nat.not_lt_zero _)
  | succ n ih =>
    intro t4 t ht hbc hn H locs hP hD hS ls hl
    obtain ⟨hx, hb, hml, hown, hts⟩ := id F
    refine lv_iload_n hx hb dX8_noteFirstSteps_2 rfl (lv_at hl 3 rfl) ?_
    refine lv_aload_n hx hb dX8_noteFirstSteps_3 rfl (lv_at hl 1 rfl) ?_
    refine va_get (D := D) (ci := 3) (v := Value.ref cu) (C := RX3) (T := TX3) (N := 6) hx hb hts inG_X3 hown hK hP 3 rfl rfl 0 (by decide) (hts _ kw_1_216) (fun _ h9 => h9) rfl dX8_noteFirstSteps_4 ?_
    refine va_get (D := D) (ci := 1) (v := Value.int sc) (C := RX1) (T := TX1) (N := 6) hx hb hts inG_X1 hown hK hP 4 rfl rfl 4 (by decide) (hts _ kw_1_107) (fun _ h9 => h9) rfl dX8_noteFirstSteps_7 ?_
    refine lv_icmp_ge (tgt := 88) hx hb dX8_noteFirstSteps_10 (by decide) (fun c_1 => ?_) (fun c_1 => ?_)
    · skip
      have c_1 := Int32.not_lt.mpr c_1
      exact kx_88 t4  H locs (hP.sub [0, 1, 2, 3, 4] rfl) (hD.sub [0, 1, 2, 3, 4] (by decide) rfl) hS ls (lv_sub hl [] rfl)
    · skip
      have c_1 := Int32.not_le.mp c_1
      refine lv_iload_n hx hb dX8_noteFirstSteps_13 rfl (lv_at hl 3 rfl) ?_
      refine lv_iconst (v := 4) hx hb dX8_noteFirstSteps_14 (by decide) ?_
      refine lv_icmp_ge (tgt := 88) hx hb dX8_noteFirstSteps_15 (by decide) (fun c_2 => ?_) (fun c_2 => ?_)
      · skip
        have c_2n : 4 ≤ t := (nI_leI (by omega) (by omega)).mp c_2
        have c_2 := Int32.not_lt.mpr c_2
        exact kx_88 t4  H locs (hP.sub [0, 1, 2, 3, 4] rfl) (hD.sub [0, 1, 2, 3, 4] (by decide) rfl) hS ls (lv_sub hl [] rfl)
      · skip
        have c_2n : t < 4 := nb_le (by omega) (by omega) c_2
        have c_2 := Int32.not_le.mp c_2
        refine lv_iconst (v := -1) hx hb dX8_noteFirstSteps_18 (by decide) ?_
        refine lv_istore (lv' := [(4, Value.int ((-1))), (0, Value.ref h0), (1, Value.ref fa), (2, Value.int x), (3, Value.int (nI t))]) hx hb dX8_noteFirstSteps_19 hl (by decide) rfl (fun ls hl => ?_)
        refine lv_iconst (v := 0) hx hb dX8_noteFirstSteps_21 (by decide) ?_
        refine lv_istore (lv' := [(5, Value.int 0), (4, Value.int ((-1))), (0, Value.ref h0), (1, Value.ref fa), (2, Value.int x), (3, Value.int (nI t))]) hx hb dX8_noteFirstSteps_22 hl (by decide) rfl (fun ls hl => ?_)
        refine lp_note_in F hA h0 fa cu rv bt wy1 wy2 wy3 wy4 cu1 cu2 cu3 cu4 wc3 s3 qd cr sc to bc ho fe wc4 t4 x t (hK.sub [0, 1] rfl) (fun fs_3  H locs hP hD hS ls hl => ?_) _ ((-1)) 0 (by omega) (by omega) (by omega) (Nat.lt_succ_self _) _ _ (hP.sub [0, 1, 2, 3, 4] rfl) (hD.sub [0, 1, 2, 3, 4] (by decide) rfl) hS ls (lv_sub hl [2, 3, 4, 5, 1, 0] rfl)
        refine lv_aload_n hx hb dX8_noteFirstSteps_74 rfl (lv_at hl 0 rfl) ?_
        refine va_get (D := D) (ci := 7) (v := Value.ref wy4) (C := RX8) (T := TX8) (N := 6) hx hb hts inG_X8 hown hK hP 0 rfl rfl 4 (by decide) (hts _ kw_2_52) (fun _ h9 => h9) rfl dX8_noteFirstSteps_75 ?_
        refine lv_iload_n hx hb dX8_noteFirstSteps_78 rfl (lv_at hl 3 rfl) ?_
        refine lv_iload hx hb dX8_noteFirstSteps_79 (lv_at hl 4 rfl) ?_
        refine m_iast hx hb hK hP hD hS 2 1 rfl rfl t rfl (by omega) (by decide) dX8_noteFirstSteps_81 (fun g_4 H locs eg_4 hP hD hS => ?_)
        have hP : va_P D vwCl [(h0, Sum.inr (7, [Value.ref wy1, Value.ref wy2, Value.int qd, Value.ref wy3, Value.ref wy4, Value.int cr])), (wy3, Sum.inl (wc3, 40, Sum.inl s3)), (wy4, Sum.inl (wc4, 4, Sum.inl g_4)), (fa, Sum.inr (3, [Value.ref cu, Value.ref rv, Value.ref bt, Value.int (nI bc), Value.int ho, Value.int fe])), (cu, Sum.inr (1, [Value.ref cu1, Value.ref cu2, Value.ref cu3, Value.ref cu4, Value.int sc, Value.int to]))] H := hP
        have hD : va_D A [(h0, Sum.inr (7, [Value.ref wy1, Value.ref wy2, Value.int qd, Value.ref wy3, Value.ref wy4, Value.int cr])), (wy3, Sum.inl (wc3, 40, Sum.inl s3)), (wy4, Sum.inl (wc4, 4, Sum.inl g_4)), (fa, Sum.inr (3, [Value.ref cu, Value.ref rv, Value.ref bt, Value.int (nI bc), Value.int ho, Value.int fe])), (cu, Sum.inr (1, [Value.ref cu1, Value.ref cu2, Value.ref cu3, Value.ref cu4, Value.int sc, Value.int to]))] := hD
        refine lv_iinc (v := nI (t + 1)) (lv' := [(3, Value.int (nI (t + 1))), (0, Value.ref h0), (1, Value.ref fa), (2, Value.int x), (4, Value.int fs_3)]) hx hb dX8_noteFirstSteps_82 hl (k := 3) rfl (nI_add t 1) (by decide) rfl (fun ls hl => ?_)
        refine lv_goto (tgt := 2) hx hb dX8_noteFirstSteps_85 (by decide) ?_
        exact ih g_4 (t + 1) (by omega) (by omega) (by omega) H locs (hP.sub [0, 1, 2, 3, 4] rfl) (hD.sub [0, 1, 2, 3, 4] (by decide) rfl) hS ls (lv_sub hl [1, 2, 3, 0] rfl)
theorem dX8_noteFirstSteps_0 : decode cX8_noteFirstSteps 0 = .ok (.iconst 0, 1) := by decide +kernel
theorem dX8_noteFirstSteps_1 : decode cX8_noteFirstSteps 1 = .ok (.istore_n 3, 1) := by decide +kernel
theorem dX8_noteFirstSteps_88 : decode cX8_noteFirstSteps 88 = .ok (.return_, 1) := by decide +kernel
set_option maxHeartbeats 4000000 in
set_option maxRecDepth 100000 in
theorem c_noteFirst (l : Launch) (D : va_G) (h0 : Nat) (fa : Nat) (cu : Nat) (rv : Nat) (bt : Nat) (wy1 : Nat) (wy2 : Nat) (wy3 : Nat) (wy4 : Nat) (cu1 : Nat) (cu2 : Nat) (cu3 : Nat) (cu4 : Nat) (wc3 : ClassId) (s3 : Nat → Int32) (qd : Int32) (cr : Int32) (sc : Int32) (to : Int32) (bc : Nat) (ho : Int32) (fe : Int32) (wc4 : ClassId) (s4 : Nat → Int32) (x : Int32) (hbc : bc ≤ 10) : cV l yX8_noteFirstSteps (.code yX8_noteFirstSteps cX8_noteFirstSteps 6 none) ({ frames := 2, cells := 0, slots := 0, locals := 81 }) D [(wc3, .int), (wc4, .int)] [(h0, Sum.inr (7, [Value.ref wy1, Value.ref wy2, Value.int qd, Value.ref wy3, Value.ref wy4, Value.int cr])), (wy3, Sum.inl (wc3, 40, Sum.inl s3)), (wy4, Sum.inl (wc4, 4, Sum.inl s4)), (fa, Sum.inr (3, [Value.ref cu, Value.ref rv, Value.ref bt, Value.int (nI bc), Value.int ho, Value.int fe])), (cu, Sum.inr (1, [Value.ref cu1, Value.ref cu2, Value.ref cu3, Value.ref cu4, Value.int sc, Value.int to]))] xT [Value.ref h0, Value.ref fa, Value.int x] (S := Nat → Int32) (fun u => match u with | t4 => True) (fun u => match u with | t4 => []) (fun u => match u with | t4 => [(h0, Sum.inr (7, [Value.ref wy1, Value.ref wy2, Value.int qd, Value.ref wy3, Value.ref wy4, Value.int cr])), (wy3, Sum.inl (wc3, 40, Sum.inl s3)), (wy4, Sum.inl (wc4, 4, Sum.inl t4)), (fa, Sum.inr (3, [Value.ref cu, Value.ref rv, Value.ref bt, Value.int (nI bc), Value.int ho, Value.int fe])), (cu, Sum.inr (1, [Value.ref cu1, Value.ref cu2, Value.ref cu3, Value.ref cu4, Value.int sc, Value.int to]))]) := by
  intro sz
  refine Met.ofW (cc := cX8_noteFirstSteps) (maxL := 6) (ret := none) (by decide) rfl ?_
  intro p e s m args below meth c s₁ B hml hv
  obtain ⟨rfl, hsz, hP, hK, hD0, hX⟩ := hv
  have hx := B.exec
  have hb := B.bytes
  have hr := B.returns
  have hts0 := atoms_spec (ws := .code yX8_noteFirstSteps cX8_noteFirstSteps 6 none :: gw) B.pre
  have hts := fun (w : Cond) (h : w ∈ gw) => hts0 w (List.mem_cons_of_mem _ h)
  have hown : s.vm.findClass RX8 = some m.cls := findClass_of_methodNamed B.named
  have hlocks := B.notSynchronized
  have F : mFix p s m _ c cX8_noteFirstSteps 6 RX8 := ⟨hx, hb, hml, hown, hts⟩
  subst hsz
  have hD := hD0.self (sz := s.heap.size)
  generalize hAe : va_A [(h0, Sum.inr (7, [Value.ref wy1, Value.ref wy2, Value.int qd, Value.ref wy3, Value.ref wy4, Value.int cr])), (wy3, Sum.inl (wc3, 40, Sum.inl s3)), (wy4, Sum.inl (wc4, 4, Sum.inl s4)), (fa, Sum.inr (3, [Value.ref cu, Value.ref rv, Value.ref bt, Value.int (nI bc), Value.int ho, Value.int fe])), (cu, Sum.inr (1, [Value.ref cu1, Value.ref cu2, Value.ref cu3, Value.ref cu4, Value.int sc, Value.int to]))] s.heap.size = A at hD hX ⊢
  have hA : ∀ q : Nat, s.heap.size ≤ q → A q := fun q h => by rw [← hAe]; exact Or.inr h
  have hS : va_S A s.heap s.heap [] := va_S.rf
  have hl := lv_entry ([Value.ref h0, Value.ref fa, Value.int x]) (n := 6) (Nat.le_of_ble_eq_true rfl)
  rw [lg_entry_eq]
  generalize (lg_sl ([Value.ref h0, Value.ref fa, Value.int x]) ++ List.replicate (6 - (lg_sl ([Value.ref h0, Value.ref fa, Value.int x])).length) Slot.unset).toArray = ls at hl ⊢
  have hl : lv_has ls 6 [(0, Value.ref h0), (1, Value.ref fa), (2, Value.int x)] := hl
  have hP : va_P D vwCl [(h0, Sum.inr (7, [Value.ref wy1, Value.ref wy2, Value.int qd, Value.ref wy3, Value.ref wy4, Value.int cr])), (wy3, Sum.inl (wc3, 40, Sum.inl s3)), (wy4, Sum.inl (wc4, 4, Sum.inl s4)), (fa, Sum.inr (3, [Value.ref cu, Value.ref rv, Value.ref bt, Value.int (nI bc), Value.int ho, Value.int fe])), (cu, Sum.inr (1, [Value.ref cu1, Value.ref cu2, Value.ref cu3, Value.ref cu4, Value.int sc, Value.int to]))] s.heap := hP
  refine lv_iconst (v := 0) hx hb dX8_noteFirstSteps_0 (by decide) ?_
  refine lv_istore_n (lv' := [(3, Value.int 0), (0, Value.ref h0), (1, Value.ref fa), (2, Value.int x)]) hx hb dX8_noteFirstSteps_1 rfl hl (by decide) rfl (fun ls hl => ?_)
  refine lp_note_out F hA h0 fa cu rv bt wy1 wy2 wy3 wy4 cu1 cu2 cu3 cu4 wc3 s3 qd cr sc to bc ho fe wc4 x (hK.sub [0, 1] rfl) (fun t4_1  H locs hP hD hS ls hl => ?_) _ s4 0 (by omega) (by omega) (Nat.lt_succ_self _) _ _ (hP.sub [0, 1, 2, 3, 4] rfl) (hD.sub [0, 1, 2, 3, 4] (by decide) rfl) hS ls (lv_sub hl [1, 2, 3, 0] rfl)
  have hP9 := hP.sub (ws' := [(h0, Sum.inr (7, [Value.ref wy1, Value.ref wy2, Value.int qd, Value.ref wy3, Value.ref wy4, Value.int cr])), (wy3, Sum.inl (wc3, 40, Sum.inl s3)), (wy4, Sum.inl (wc4, 4, Sum.inl t4_1)), (fa, Sum.inr (3, [Value.ref cu, Value.ref rv, Value.ref bt, Value.int (nI bc), Value.int ho, Value.int fe])), (cu, Sum.inr (1, [Value.ref cu1, Value.ref cu2, Value.ref cu3, Value.ref cu4, Value.int sc, Value.int to]))]) [0, 1, 2, 3, 4] rfl
  have hD9 := hD.sub (ws' := [(h0, Sum.inr (7, [Value.ref wy1, Value.ref wy2, Value.int qd, Value.ref wy3, Value.ref wy4, Value.int cr])), (wy3, Sum.inl (wc3, 40, Sum.inl s3)), (wy4, Sum.inl (wc4, 4, Sum.inl t4_1)), (fa, Sum.inr (3, [Value.ref cu, Value.ref rv, Value.ref bt, Value.int (nI bc), Value.int ho, Value.int fe])), (cu, Sum.inr (1, [Value.ref cu1, Value.ref cu2, Value.ref cu3, Value.ref cu4, Value.int sc, Value.int to]))]) [0, 1, 2, 3, 4] (by decide) rfl
  have hK9 := hK.sub (tys' := []) [] rfl
  refine W.widen (k := 0) (n := 0) (by decide) (by decide) ?_
  exact W.vret hx hb hr (fun t ht hW => ⟨⟨t4_1, rfl, trivial, by rw [ht]; exact hP9, va_K.moved hW.alike hK9, hD9⟩, hS.F ht⟩) hS.2.2 dX8_noteFirstSteps_88
theorem dX8_menOf_4 : decode cX8_menOf 4 = .ok (.iload_n 3, 1) := by decide +kernel
theorem dX8_menOf_5 : decode cX8_menOf 5 = .ok (.aload_n 0, 1) := by decide +kernel
theorem dX8_menOf_6 : decode cX8_menOf 6 = .ok (.getfield 71, 3) := by decide +kernel
theorem dX8_menOf_9 : decode cX8_menOf 9 = .ok (.if_icmp .ge 36, 3) := by decide +kernel
theorem dX8_menOf_12 : decode cX8_menOf 12 = .ok (.iload_n 3, 1) := by decide +kernel
theorem dX8_menOf_13 : decode cX8_menOf 13 = .ok (.bipush 10, 2) := by decide +kernel
theorem dX8_menOf_15 : decode cX8_menOf 15 = .ok (.if_icmp .ge 30, 3) := by decide +kernel
theorem dX8_menOf_18 : decode cX8_menOf 18 = .ok (.iload_n 1, 1) := by decide +kernel
theorem dX8_menOf_19 : decode cX8_menOf 19 = .ok (.iload_n 3, 1) := by decide +kernel
theorem dX8_menOf_20 : decode cX8_menOf 20 = .ok (.ishr, 1) := by decide +kernel
theorem dX8_menOf_21 : decode cX8_menOf 21 = .ok (.iconst 1, 1) := by decide +kernel
theorem dX8_menOf_22 : decode cX8_menOf 22 = .ok (.iand, 1) := by decide +kernel
theorem dX8_menOf_23 : decode cX8_menOf 23 = .ok (.iconst 1, 1) := by decide +kernel
theorem dX8_menOf_24 : decode cX8_menOf 24 = .ok (.if_icmp .ne 15, 3) := by decide +kernel
theorem dX8_menOf_39 : decode cX8_menOf 39 = .ok (.iinc 3 1, 3) := by decide +kernel
theorem dX8_menOf_42 : decode cX8_menOf 42 = .ok (.goto (-38), 3) := by decide +kernel
theorem dX8_menOf_27 : decode cX8_menOf 27 = .ok (.iload_n 2, 1) := by decide +kernel
theorem dX8_menOf_28 : decode cX8_menOf 28 = .ok (.aload_n 0, 1) := by decide +kernel
theorem dX8_menOf_29 : decode cX8_menOf 29 = .ok (.getfield 91, 3) := by decide +kernel
theorem dX8_menOf_32 : decode cX8_menOf 32 = .ok (.iload_n 3, 1) := by decide +kernel
theorem dX8_menOf_33 : decode cX8_menOf 33 = .ok (.aaload, 1) := by decide +kernel
theorem dX8_menOf_34 : decode cX8_menOf 34 = .ok (.getfield 95, 3) := by decide +kernel
theorem dX8_menOf_37 : decode cX8_menOf 37 = .ok (.iadd, 1) := by decide +kernel
theorem dX8_menOf_38 : decode cX8_menOf 38 = .ok (.istore_n 2, 1) := by decide +kernel
set_option maxHeartbeats 4000000 in
set_option maxRecDepth 100000 in
theorem lp_menOf {p : Program} {l : Launch} {e : Env} {s : State} {m : MethodId} {args : Array Value} {below : List Frame} {meth : Method} {c : Code} {Q : State → Prop} {A : Nat → Prop} {D : va_G} (F : mFix p s m args c cX8_menOf 4 RX8) (hA : ∀ q, s.heap.size ≤ q → A q) (bo : Nat → Nat) (B1 : Nat → Int32) (B2 : Nat → Int32) (B3 : Nat → Int32) (B4 : Nat → Int32) (B5 : Nat → Int32) (B6 : Nat → Int32) (B7 : Nat → Int32) (fa : Nat) (cu : Nat) (rv : Nat) (bt : Nat) (bc9 : ClassId) (bc : Nat) (ho : Int32) (fe : Int32) (x : Int32) (hK : va_K D vwCl [(bc9, .object RX0)] s)
    (kx_45 : ∀ (n9 : Int32), ∀ (H : Heap) (locs : List Loc), va_P D vwCl (bL bo B1 B2 B3 B4 B5 B6 B7 ++ ([(fa, Sum.inr (3, [Value.ref cu, Value.ref rv, Value.ref bt, Value.int (nI bc), Value.int ho, Value.int fe])), (bt, Sum.inl (bc9, 10, Sum.inr (Sum.inr (Sum.inr (Sum.inr (fun j => some (bo j)))))))] : va_W)) H → va_D A (bL bo B1 B2 B3 B4 B5 B6 B7 ++ ([(fa, Sum.inr (3, [Value.ref cu, Value.ref rv, Value.ref bt, Value.int (nI bc), Value.int ho, Value.int fe])), (bt, Sum.inl (bc9, 10, Sum.inr (Sum.inr (Sum.inr (Sum.inr (fun j => some (bo j)))))))] : va_W)) → va_S A s.heap H locs → ∀ ls : Array Slot, lv_has ls 4 [(2, Value.int n9)] → W p l e ({ frames := 0, cells := 0, slots := 0, locals := 0 }) s m args below meth c H locs 0 0 Q (F0 m 45 ls [])) :
    ∀ n : Nat, ∀ (n9 : Int32) (i : Nat), (i ≤ bc) → (bc ≤ 10) → (bc - i) < n → ∀ (H : Heap) (locs : List Loc), va_P D vwCl (bL bo B1 B2 B3 B4 B5 B6 B7 ++ ([(fa, Sum.inr (3, [Value.ref cu, Value.ref rv, Value.ref bt, Value.int (nI bc), Value.int ho, Value.int fe])), (bt, Sum.inl (bc9, 10, Sum.inr (Sum.inr (Sum.inr (Sum.inr (fun j => some (bo j)))))))] : va_W)) H → va_D A (bL bo B1 B2 B3 B4 B5 B6 B7 ++ ([(fa, Sum.inr (3, [Value.ref cu, Value.ref rv, Value.ref bt, Value.int (nI bc), Value.int ho, Value.int fe])), (bt, Sum.inl (bc9, 10, Sum.inr (Sum.inr (Sum.inr (Sum.inr (fun j => some (bo j)))))))] : va_W)) → va_S A s.heap H locs → ∀ ls : Array Slot, lv_has ls 4 [(0, Value.ref fa), (1, Value.int x), (2, Value.int n9), (3, Value.int (nI i))] → W p l e ({ frames := 0, cells := 0, slots := 0, locals := 0 }) s m args below meth c H locs 0 0 Q (F0 m 4 ls []) := by
  intro n
  induction n with
  | zero => intro n9 i hi hbc hn; exact absurd hn (Nat.not_lt_zero _)
  | succ n ih =>
    intro n9 i hi hbc hn H locs hP hD hS ls hl
    obtain ⟨hx, hb, hml, hown, hts⟩ := id F
    refine lv_iload_n hx hb dX8_menOf_4 rfl (lv_at hl 3 rfl) ?_
    refine lv_aload_n hx hb dX8_menOf_5 rfl (lv_at hl 0 rfl) ?_
    refine va_get (D := D) (ci := 3) (v := Value.int (nI bc)) (C := RX3) (T := TX3) (N := 6) hx hb hts inG_X3 hown hK hP 10 rfl rfl 3 (by decide) (hts _ kw_1_228) (fun _ h9 => h9) rfl dX8_menOf_6 ?_
    refine lv_icmp_ge (tgt := 45) hx hb dX8_menOf_9 (by decide) (fun c_1 => ?_) (fun c_1 => ?_)
    · skip
      have c_1n : bc ≤ i := (nI_leI (by omega) (by omega)).mp c_1
      have c_1 := Int32.not_lt.mpr c_1
      exact kx_45 n9  H locs (hP.sub [0, 1, 2, 3, 4, 5, 6, 7, 8, 9, 10, 11] rfl) (hD.sub [0, 1, 2, 3, 4, 5, 6, 7, 8, 9, 10, 11] (by decide) rfl) hS ls (lv_sub hl [2] rfl)
    · skip
      have c_1n : i < bc := nb_le (by omega) (by omega) c_1
      have c_1 := Int32.not_le.mp c_1
      refine lv_iload_n hx hb dX8_menOf_12 rfl (lv_at hl 3 rfl) ?_
      refine lv_bipush (v := 10) hx hb dX8_menOf_13 (by decide) ?_
      refine lv_icmp_ge (tgt := 45) hx hb dX8_menOf_15 (by decide) (fun c_2 => ?_) (fun c_2 => ?_)
      · skip
        have c_2n : 10 ≤ i := (nI_leI (by omega) (by omega)).mp c_2
        have c_2 := Int32.not_lt.mpr c_2
        exact kx_45 n9  H locs (hP.sub [0, 1, 2, 3, 4, 5, 6, 7, 8, 9, 10, 11] rfl) (hD.sub [0, 1, 2, 3, 4, 5, 6, 7, 8, 9, 10, 11] (by decide) rfl) hS ls (lv_sub hl [2] rfl)
      · skip
        have c_2n : i < 10 := nb_le (by omega) (by omega) c_2
        have c_2 := Int32.not_le.mp c_2
        refine lv_iload_n hx hb dX8_menOf_18 rfl (lv_at hl 1 rfl) ?_
        refine lv_iload_n hx hb dX8_menOf_19 rfl (lv_at hl 3 rfl) ?_
        refine lv_ishr hx hb dX8_menOf_20 ?_
        refine lv_topi (fun z_3 ez_3 => ?_)
        refine lv_iconst (v := 1) hx hb dX8_menOf_21 (by decide) ?_
        refine lv_iand hx hb dX8_menOf_22 ?_
        refine lv_topi (fun z_4 ez_4 => ?_)
        refine lv_iconst (v := 1) hx hb dX8_menOf_23 (by decide) ?_
        refine lv_icmp_ne (tgt := 39) hx hb dX8_menOf_24 (by decide) (fun c_5 => ?_) (fun c_5 => ?_)
        · skip
          refine lv_iinc (v := nI (i + 1)) (lv' := [(3, Value.int (nI (i + 1))), (0, Value.ref fa), (1, Value.int x), (2, Value.int n9)]) hx hb dX8_menOf_39 hl (k := 3) rfl (nI_add i 1) (by decide) rfl (fun ls hl => ?_)
          refine lv_goto (tgt := 4) hx hb dX8_menOf_42 (by decide) ?_
          exact ih n9 (i + 1) (by omega) (by omega) (by omega) H locs (hP.sub [0, 1, 2, 3, 4, 5, 6, 7, 8, 9, 10, 11] rfl) (hD.sub [0, 1, 2, 3, 4, 5, 6, 7, 8, 9, 10, 11] (by decide) rfl) hS ls (lv_sub hl [1, 2, 3, 0] rfl)
        · skip
          refine lv_iload_n hx hb dX8_menOf_27 rfl (lv_at hl 2 rfl) ?_
          refine lv_aload_n hx hb dX8_menOf_28 rfl (lv_at hl 0 rfl) ?_
          refine va_get (D := D) (ci := 3) (v := Value.ref bt) (C := RX3) (T := TX3) (N := 6) hx hb hts inG_X3 hown hK hP 10 rfl rfl 2 (by decide) (hts _ kw_1_225) (fun _ h9 => h9) rfl dX8_menOf_29 ?_
          refine lv_iload_n hx hb dX8_menOf_32 rfl (lv_at hl 3 rfl) ?_
          refine m_aald hx hb hK hP 11 0 rfl rfl i rfl (by omega) (by decide) dX8_menOf_33 ?_
          refine W.eq (g2 := F0 m 34 ls [Value.ref (bo i), Value.int n9]) rfl ?_
          refine va_get (D := D) (ci := 0) (v := .int (B4 i)) (C := RX0) (T := TX0) (N := 7) hx hb hts inG_X0 hown hK hP i (bL_get (by omega)) rfl 3 (by decide) (hts _ kw_1_189) (fun _ h9 => h9) rfl dX8_menOf_34 ?_
          refine lv_iadd hx hb dX8_menOf_37 ?_
          refine lv_topi (fun z_6 ez_6 => ?_)
          refine lv_istore_n (lv' := [(2, Value.int z_6), (0, Value.ref fa), (1, Value.int x), (3, Value.int (nI i))]) hx hb dX8_menOf_38 rfl hl (by decide) rfl (fun ls hl => ?_)
          refine lv_iinc (v := nI (i + 1)) (lv' := [(3, Value.int (nI (i + 1))), (2, Value.int z_6), (0, Value.ref fa), (1, Value.int x)]) hx hb dX8_menOf_39 hl (k := 3) rfl (nI_add i 1) (by decide) rfl (fun ls hl => ?_)
          refine lv_goto (tgt := 4) hx hb dX8_menOf_42 (by decide) ?_
          exact ih z_6 (i + 1) (by omega) (by omega) (by omega) H locs (hP.sub [0, 1, 2, 3, 4, 5, 6, 7, 8, 9, 10, 11] rfl) (hD.sub [0, 1, 2, 3, 4, 5, 6, 7, 8, 9, 10, 11] (by decide) rfl) hS ls (lv_sub hl [2, 3, 1, 0] rfl)
theorem dX8_menOf_0 : decode cX8_menOf 0 = .ok (.iconst 0, 1) := by decide +kernel
theorem dX8_menOf_1 : decode cX8_menOf 1 = .ok (.istore_n 2, 1) := by decide +kernel
theorem dX8_menOf_2 : decode cX8_menOf 2 = .ok (.iconst 0, 1) := by decide +kernel
theorem dX8_menOf_3 : decode cX8_menOf 3 = .ok (.istore_n 3, 1) := by decide +kernel
theorem dX8_menOf_45 : decode cX8_menOf 45 = .ok (.iload_n 2, 1) := by decide +kernel
theorem dX8_menOf_46 : decode cX8_menOf 46 = .ok (.ireturn, 1) := by decide +kernel
set_option maxHeartbeats 4000000 in
set_option maxRecDepth 100000 in
theorem c_menOf (l : Launch) (D : va_G) (bo : Nat → Nat) (B1 : Nat → Int32) (B2 : Nat → Int32) (B3 : Nat → Int32) (B4 : Nat → Int32) (B5 : Nat → Int32) (B6 : Nat → Int32) (B7 : Nat → Int32) (fa : Nat) (cu : Nat) (rv : Nat) (bt : Nat) (bc9 : ClassId) (bc : Nat) (ho : Int32) (fe : Int32) (x : Int32) (hbc : bc ≤ 10) : cI l yX8_menOf (.code yX8_menOf cX8_menOf 4 (some .int)) ({ frames := 0, cells := 0, slots := 0, locals := 0 }) D [(bc9, .object RX0)] (bL bo B1 B2 B3 B4 B5 B6 B7 ++ ([(fa, Sum.inr (3, [Value.ref cu, Value.ref rv, Value.ref bt, Value.int (nI bc), Value.int ho, Value.int fe])), (bt, Sum.inl (bc9, 10, Sum.inr (Sum.inr (Sum.inr (Sum.inr (fun j => some (bo j)))))))] : va_W)) xT [Value.ref fa, Value.int x] (S := Unit) (fun r _ => r = r) (fun _ => []) (fun _ => (bL bo B1 B2 B3 B4 B5 B6 B7 ++ ([(fa, Sum.inr (3, [Value.ref cu, Value.ref rv, Value.ref bt, Value.int (nI bc), Value.int ho, Value.int fe])), (bt, Sum.inl (bc9, 10, Sum.inr (Sum.inr (Sum.inr (Sum.inr (fun j => some (bo j)))))))] : va_W))) := by
  intro sz
  refine Met.ofW (cc := cX8_menOf) (maxL := 4) (ret := (some .int)) (by decide) rfl ?_
  intro p e s m args below meth c s₁ B hml hv
  obtain ⟨rfl, hsz, hP, hK, hD0, hX⟩ := hv
  have hx := B.exec
  have hb := B.bytes
  have hr := B.returns
  have hts0 := atoms_spec (ws := .code yX8_menOf cX8_menOf 4 (some .int) :: gw) B.pre
  have hts := fun (w : Cond) (h : w ∈ gw) => hts0 w (List.mem_cons_of_mem _ h)
  have hown : s.vm.findClass RX8 = some m.cls := findClass_of_methodNamed B.named
  have hlocks := B.notSynchronized
  have F : mFix p s m _ c cX8_menOf 4 RX8 := ⟨hx, hb, hml, hown, hts⟩
  subst hsz
  have hD := hD0.self (sz := s.heap.size)
  generalize hAe : va_A (bL bo B1 B2 B3 B4 B5 B6 B7 ++ ([(fa, Sum.inr (3, [Value.ref cu, Value.ref rv, Value.ref bt, Value.int (nI bc), Value.int ho, Value.int fe])), (bt, Sum.inl (bc9, 10, Sum.inr (Sum.inr (Sum.inr (Sum.inr (fun j => some (bo j)))))))] : va_W)) s.heap.size = A at hD hX ⊢
  have hA : ∀ q : Nat, s.heap.size ≤ q → A q := fun q h => by rw [← hAe]; exact Or.inr h
  have hS : va_S A s.heap s.heap [] := va_S.rf
  have hl := lv_entry ([Value.ref fa, Value.int x]) (n := 4) (Nat.le_of_ble_eq_true rfl)
  rw [lg_entry_eq]
  generalize (lg_sl ([Value.ref fa, Value.int x]) ++ List.replicate (4 - (lg_sl ([Value.ref fa, Value.int x])).length) Slot.unset).toArray = ls at hl ⊢
  have hl : lv_has ls 4 [(0, Value.ref fa), (1, Value.int x)] := hl
  have hP : va_P D vwCl (bL bo B1 B2 B3 B4 B5 B6 B7 ++ ([(fa, Sum.inr (3, [Value.ref cu, Value.ref rv, Value.ref bt, Value.int (nI bc), Value.int ho, Value.int fe])), (bt, Sum.inl (bc9, 10, Sum.inr (Sum.inr (Sum.inr (Sum.inr (fun j => some (bo j)))))))] : va_W)) s.heap := hP
  refine lv_iconst (v := 0) hx hb dX8_menOf_0 (by decide) ?_
  refine lv_istore_n (lv' := [(2, Value.int 0), (0, Value.ref fa), (1, Value.int x)]) hx hb dX8_menOf_1 rfl hl (by decide) rfl (fun ls hl => ?_)
  refine lv_iconst (v := 0) hx hb dX8_menOf_2 (by decide) ?_
  refine lv_istore_n (lv' := [(3, Value.int 0), (2, Value.int 0), (0, Value.ref fa), (1, Value.int x)]) hx hb dX8_menOf_3 rfl hl (by decide) rfl (fun ls hl => ?_)
  refine lp_menOf F hA bo B1 B2 B3 B4 B5 B6 B7 fa cu rv bt bc9 bc ho fe x (hK.sub [0] rfl) (fun n9_1  H locs hP hD hS ls hl => ?_) _ 0 0 (by omega) (by omega) (Nat.lt_succ_self _) _ _ (hP.sub [0, 1, 2, 3, 4, 5, 6, 7, 8, 9, 10, 11] rfl) (hD.sub [0, 1, 2, 3, 4, 5, 6, 7, 8, 9, 10, 11] (by decide) rfl) hS ls (lv_sub hl [2, 3, 1, 0] rfl)
  refine lv_iload_n hx hb dX8_menOf_45 rfl (lv_at hl 0 rfl) ?_
  have hP9 := hP.sub (ws' := (bL bo B1 B2 B3 B4 B5 B6 B7 ++ ([(fa, Sum.inr (3, [Value.ref cu, Value.ref rv, Value.ref bt, Value.int (nI bc), Value.int ho, Value.int fe])), (bt, Sum.inl (bc9, 10, Sum.inr (Sum.inr (Sum.inr (Sum.inr (fun j => some (bo j)))))))] : va_W))) [0, 1, 2, 3, 4, 5, 6, 7, 8, 9, 10, 11] rfl
  have hD9 := hD.sub (ws' := (bL bo B1 B2 B3 B4 B5 B6 B7 ++ ([(fa, Sum.inr (3, [Value.ref cu, Value.ref rv, Value.ref bt, Value.int (nI bc), Value.int ho, Value.int fe])), (bt, Sum.inl (bc9, 10, Sum.inr (Sum.inr (Sum.inr (Sum.inr (fun j => some (bo j)))))))] : va_W))) [0, 1, 2, 3, 4, 5, 6, 7, 8, 9, 10, 11] (by decide) rfl
  have hK9 := hK.sub (tys' := []) [] rfl
  refine W.widen (k := 0) (n := 0) (by decide) (by decide) ?_
  exact W.iret (v := n9_1) hx hb hr (fun t ht hW => ⟨⟨n9_1, (), rfl, rfl, by rw [ht]; exact hP9, va_K.moved hW.alike hK9, hD9⟩, hS.F ht⟩) hS.2.2 dX8_menOf_46
theorem dX8_menLetOff_5 : decode cX8_menLetOff 5 = .ok (.iload 4, 2) := by decide +kernel
theorem dX8_menLetOff_7 : decode cX8_menLetOff 7 = .ok (.aload_n 1, 1) := by decide +kernel
theorem dX8_menLetOff_8 : decode cX8_menLetOff 8 = .ok (.getfield 30, 3) := by decide +kernel
theorem dX8_menLetOff_11 : decode cX8_menLetOff 11 = .ok (.getfield 36, 3) := by decide +kernel
theorem dX8_menLetOff_14 : decode cX8_menLetOff 14 = .ok (.if_icmp .ge 60, 3) := by decide +kernel
theorem dX8_menLetOff_17 : decode cX8_menLetOff 17 = .ok (.iload 4, 2) := by decide +kernel
theorem dX8_menLetOff_19 : decode cX8_menLetOff 19 = .ok (.iconst 4, 1) := by decide +kernel
theorem dX8_menLetOff_20 : decode cX8_menLetOff 20 = .ok (.if_icmp .ge 54, 3) := by decide +kernel
theorem dX8_menLetOff_23 : decode cX8_menLetOff 23 = .ok (.aload_n 0, 1) := by decide +kernel
theorem dX8_menLetOff_24 : decode cX8_menLetOff 24 = .ok (.getfield 21, 3) := by decide +kernel
theorem dX8_menLetOff_27 : decode cX8_menLetOff 27 = .ok (.iload 4, 2) := by decide +kernel
theorem dX8_menLetOff_29 : decode cX8_menLetOff 29 = .ok (.iaload, 1) := by decide +kernel
theorem dX8_menLetOff_30 : decode cX8_menLetOff 30 = .ok (.iconst (-1), 1) := by decide +kernel
theorem dX8_menLetOff_31 : decode cX8_menLetOff 31 = .ok (.if_icmp .eq 37, 3) := by decide +kernel
theorem dX8_menLetOff_68 : decode cX8_menLetOff 68 = .ok (.iinc 4 1, 3) := by decide +kernel
theorem dX8_menLetOff_71 : decode cX8_menLetOff 71 = .ok (.goto (-66), 3) := by decide +kernel
theorem dX8_menLetOff_34 : decode cX8_menLetOff 34 = .ok (.aload_n 0, 1) := by decide +kernel
theorem dX8_menLetOff_35 : decode cX8_menLetOff 35 = .ok (.getfield 21, 3) := by decide +kernel
theorem dX8_menLetOff_38 : decode cX8_menLetOff 38 = .ok (.iload 4, 2) := by decide +kernel
theorem dX8_menLetOff_40 : decode cX8_menLetOff 40 = .ok (.iaload, 1) := by decide +kernel
theorem dX8_menLetOff_41 : decode cX8_menLetOff 41 = .ok (.iload_n 2, 1) := by decide +kernel
theorem dX8_menLetOff_42 : decode cX8_menLetOff 42 = .ok (.if_icmp .ge 26, 3) := by decide +kernel
theorem dX8_menLetOff_45 : decode cX8_menLetOff 45 = .ok (.iload_n 3, 1) := by decide +kernel
theorem dX8_menLetOff_46 : decode cX8_menLetOff 46 = .ok (.aload_n 1, 1) := by decide +kernel
theorem dX8_menLetOff_47 : decode cX8_menLetOff 47 = .ok (.getfield 30, 3) := by decide +kernel
theorem kw_1_105 : Cond.fieldLink RX8 135 "IceFair$Customs" "stairMen" "[I" ∈ gw := gw_t1 (List.mem_of_getElem? (i := 105) (by decide +kernel)) (by decide +kernel)
theorem dX8_menLetOff_50 : decode cX8_menLetOff 50 = .ok (.getfield 135, 3) := by decide +kernel
theorem dX8_menLetOff_53 : decode cX8_menLetOff 53 = .ok (.iload 4, 2) := by decide +kernel
theorem dX8_menLetOff_55 : decode cX8_menLetOff 55 = .ok (.iaload, 1) := by decide +kernel
theorem dX8_menLetOff_56 : decode cX8_menLetOff 56 = .ok (.iload_n 2, 1) := by decide +kernel
theorem dX8_menLetOff_57 : decode cX8_menLetOff 57 = .ok (.aload_n 0, 1) := by decide +kernel
theorem dX8_menLetOff_58 : decode cX8_menLetOff 58 = .ok (.getfield 21, 3) := by decide +kernel
theorem dX8_menLetOff_61 : decode cX8_menLetOff 61 = .ok (.iload 4, 2) := by decide +kernel
theorem dX8_menLetOff_63 : decode cX8_menLetOff 63 = .ok (.iaload, 1) := by decide +kernel
theorem dX8_menLetOff_64 : decode cX8_menLetOff 64 = .ok (.isub, 1) := by decide +kernel
theorem dX8_menLetOff_65 : decode cX8_menLetOff 65 = .ok (.imul, 1) := by decide +kernel
theorem dX8_menLetOff_66 : decode cX8_menLetOff 66 = .ok (.iadd, 1) := by decide +kernel
theorem dX8_menLetOff_67 : decode cX8_menLetOff 67 = .ok (.istore_n 3, 1) := by decide +kernel
set_option maxHeartbeats 4000000 in
set_option maxRecDepth 100000 in
theorem lp_menLet {p : Program} {l : Launch} {e : Env} {s : State} {m : MethodId} {args : Array Value} {below : List Frame} {meth : Method} {c : Code} {Q : State → Prop} {A : Nat → Prop} {D : va_G} (F : mFix p s m args c cX8_menLetOff 5 RX8) (hA : ∀ q, s.heap.size ≤ q → A q) (h0 : Nat) (fa : Nat) (cu : Nat) (rv : Nat) (bt : Nat) (wy1 : Nat) (wy2 : Nat) (wy3 : Nat) (wy4 : Nat) (cu1 : Nat) (cu2 : Nat) (cu3 : Nat) (cu4 : Nat) (wc4 : ClassId) (cc4 : ClassId) (s4 : Nat → Int32) (cf4 : Nat → Int32) (qd : Int32) (cr : Int32) (sc : Int32) (to : Int32) (bc : Nat) (ho : Int32) (fe : Int32) (x : Int32) (hK : va_K D vwCl [(wc4, .int), (cc4, .int)] s)
    (kx_74 : ∀ (n9 : Int32), ∀ (H : Heap) (locs : List Loc), va_P D vwCl [(h0, Sum.inr (7, [Value.ref wy1, Value.ref wy2, Value.int qd, Value.ref wy3, Value.ref wy4, Value.int cr])), (wy4, Sum.inl (wc4, 4, Sum.inl s4)), (fa, Sum.inr (3, [Value.ref cu, Value.ref rv, Value.ref bt, Value.int (nI bc), Value.int ho, Value.int fe])), (cu, Sum.inr (1, [Value.ref cu1, Value.ref cu2, Value.ref cu3, Value.ref cu4, Value.int sc, Value.int to])), (cu4, Sum.inl (cc4, 4, Sum.inl cf4))] H → va_D A [(h0, Sum.inr (7, [Value.ref wy1, Value.ref wy2, Value.int qd, Value.ref wy3, Value.ref wy4, Value.int cr])), (wy4, Sum.inl (wc4, 4, Sum.inl s4)), (fa, Sum.inr (3, [Value.ref cu, Value.ref rv, Value.ref bt, Value.int (nI bc), Value.int ho, Value.int fe])), (cu, Sum.inr (1, [Value.ref cu1, Value.ref cu2, Value.ref cu3, Value.ref cu4, Value.int sc, Value.int to])), (cu4, Sum.inl (cc4, 4, Sum.inl cf4))] → va_S A s.heap H locs → ∀ ls : Array Slot, lv_has ls 5 [(3, Value.int n9)] → W p l e ({ frames := 0, cells := 0, slots := 0, locals := 0 }) s m args below meth c H locs 0 0 Q (F0 m 74 ls [])) :
    ∀ n : Nat, ∀ (n9 : Int32) (t : Nat), (t ≤ 4) → (4 - t) < n → ∀ (H : Heap) (locs : List Loc), va_P D vwCl [(h0, Sum.inr (7, [Value.ref wy1, Value.ref wy2, Value.int qd, Value.ref wy3, Value.ref wy4, Value.int cr])), (wy4, Sum.inl (wc4, 4, Sum.inl s4)), (fa, Sum.inr (3, [Value.ref cu, Value.ref rv, Value.ref bt, Value.int (nI bc), Value.int ho, Value.int fe])), (cu, Sum.inr (1, [Value.ref cu1, Value.ref cu2, Value.ref cu3, Value.ref cu4, Value.int sc, Value.int to])), (cu4, Sum.inl (cc4, 4, Sum.inl cf4))] H → va_D A [(h0, Sum.inr (7, [Value.ref wy1, Value.ref wy2, Value.int qd, Value.ref wy3, Value.ref wy4, Value.int cr])), (wy4, Sum.inl (wc4, 4, Sum.inl s4)), (fa, Sum.inr (3, [Value.ref cu, Value.ref rv, Value.ref bt, Value.int (nI bc), Value.int ho, Value.int fe])), (cu, Sum.inr (1, [Value.ref cu1, Value.ref cu2, Value.ref cu3, Value.ref cu4, Value.int sc, Value.int to])), (cu4, Sum.inl (cc4, 4, Sum.inl cf4))] → va_S A s.heap H locs → ∀ ls : Array Slot, lv_has ls 5 [(0, Value.ref h0), (1, Value.ref fa), (2, Value.int x), (3, Value.int n9), (4, Value.int (nI t))] → W p l e ({ frames := 0, cells := 0, slots := 0, locals := 0 }) s m args below meth c H locs 0 0 Q (F0 m 5 ls []) := by
  intro n
  induction n with
  | zero => intro n9 t ht hn; exact absurd hn (Nat.not_lt_zero _)
  | succ n ih =>
    intro n9 t ht hn H locs hP hD hS ls hl
    obtain ⟨hx, hb, hml, hown, hts⟩ := id F
    refine lv_iload hx hb dX8_menLetOff_5 (lv_at hl 4 rfl) ?_
    refine lv_aload_n hx hb dX8_menLetOff_7 rfl (lv_at hl 1 rfl) ?_
    refine va_get (D := D) (ci := 3) (v := Value.ref cu) (C := RX3) (T := TX3) (N := 6) hx hb hts inG_X3 hown hK hP 2 rfl rfl 0 (by decide) (hts _ kw_1_216) (fun _ h9 => h9) rfl dX8_menLetOff_8 ?_
    refine va_get (D := D) (ci := 1) (v := Value.int sc) (C := RX1) (T := TX1) (N := 6) hx hb hts inG_X1 hown hK hP 3 rfl rfl 4 (by decide) (hts _ kw_1_107) (fun _ h9 => h9) rfl dX8_menLetOff_11 ?_
    refine lv_icmp_ge (tgt := 74) hx hb dX8_menLetOff_14 (by decide) (fun c_1 => ?_) (fun c_1 => ?_)
    · skip
      have c_1 := Int32.not_lt.mpr c_1
      exact kx_74 n9  H locs (hP.sub [0, 1, 2, 3, 4] rfl) (hD.sub [0, 1, 2, 3, 4] (by decide) rfl) hS ls (lv_sub hl [3] rfl)
    · skip
      have c_1 := Int32.not_le.mp c_1
      refine lv_iload hx hb dX8_menLetOff_17 (lv_at hl 4 rfl) ?_
      refine lv_iconst (v := 4) hx hb dX8_menLetOff_19 (by decide) ?_
      refine lv_icmp_ge (tgt := 74) hx hb dX8_menLetOff_20 (by decide) (fun c_2 => ?_) (fun c_2 => ?_)
      · skip
        have c_2n : 4 ≤ t := (nI_leI (by omega) (by omega)).mp c_2
        have c_2 := Int32.not_lt.mpr c_2
        exact kx_74 n9  H locs (hP.sub [0, 1, 2, 3, 4] rfl) (hD.sub [0, 1, 2, 3, 4] (by decide) rfl) hS ls (lv_sub hl [3] rfl)
      · skip
        have c_2n : t < 4 := nb_le (by omega) (by omega) c_2
        have c_2 := Int32.not_le.mp c_2
        refine lv_aload_n hx hb dX8_menLetOff_23 rfl (lv_at hl 0 rfl) ?_
        refine va_get (D := D) (ci := 7) (v := Value.ref wy4) (C := RX8) (T := TX8) (N := 6) hx hb hts inG_X8 hown hK hP 0 rfl rfl 4 (by decide) (hts _ kw_2_52) (fun _ h9 => h9) rfl dX8_menLetOff_24 ?_
        refine lv_iload hx hb dX8_menLetOff_27 (lv_at hl 4 rfl) ?_
        refine m_iald hx hb hK hP 1 0 rfl rfl t rfl (by omega) (by decide) dX8_menLetOff_29 ?_
        refine lv_topi (fun v_3 ev_3 => ?_)
        refine lv_iconst (v := -1) hx hb dX8_menLetOff_30 (by decide) ?_
        refine lv_icmp_eq (tgt := 68) hx hb dX8_menLetOff_31 (by decide) (fun c_4 => ?_) (fun c_4 => ?_)
        · skip
          refine lv_iinc (v := nI (t + 1)) (lv' := [(4, Value.int (nI (t + 1))), (0, Value.ref h0), (1, Value.ref fa), (2, Value.int x), (3, Value.int n9)]) hx hb dX8_menLetOff_68 hl (k := 4) rfl (nI_add t 1) (by decide) rfl (fun ls hl => ?_)
          refine lv_goto (tgt := 5) hx hb dX8_menLetOff_71 (by decide) ?_
          exact ih n9 (t + 1) (by omega) (by omega) H locs (hP.sub [0, 1, 2, 3, 4] rfl) (hD.sub [0, 1, 2, 3, 4] (by decide) rfl) hS ls (lv_sub hl [1, 2, 3, 4, 0] rfl)
        · skip
          refine lv_aload_n hx hb dX8_menLetOff_34 rfl (lv_at hl 0 rfl) ?_
          refine va_get (D := D) (ci := 7) (v := Value.ref wy4) (C := RX8) (T := TX8) (N := 6) hx hb hts inG_X8 hown hK hP 0 rfl rfl 4 (by decide) (hts _ kw_2_52) (fun _ h9 => h9) rfl dX8_menLetOff_35 ?_
          refine lv_iload hx hb dX8_menLetOff_38 (lv_at hl 4 rfl) ?_
          refine m_iald hx hb hK hP 1 0 rfl rfl t rfl (by omega) (by decide) dX8_menLetOff_40 ?_
          refine lv_topi (fun v_5 ev_5 => ?_)
          refine lv_iload_n hx hb dX8_menLetOff_41 rfl (lv_at hl 2 rfl) ?_
          refine lv_icmp_ge (tgt := 68) hx hb dX8_menLetOff_42 (by decide) (fun c_6 => ?_) (fun c_6 => ?_)
          · skip
            have c_6 := Int32.not_lt.mpr c_6
            refine lv_iinc (v := nI (t + 1)) (lv' := [(4, Value.int (nI (t + 1))), (0, Value.ref h0), (1, Value.ref fa), (2, Value.int x), (3, Value.int n9)]) hx hb dX8_menLetOff_68 hl (k := 4) rfl (nI_add t 1) (by decide) rfl (fun ls hl => ?_)
            refine lv_goto (tgt := 5) hx hb dX8_menLetOff_71 (by decide) ?_
            exact ih n9 (t + 1) (by omega) (by omega) H locs (hP.sub [0, 1, 2, 3, 4] rfl) (hD.sub [0, 1, 2, 3, 4] (by decide) rfl) hS ls (lv_sub hl [1, 2, 3, 4, 0] rfl)
          · skip
            have c_6 := Int32.not_le.mp c_6
            refine lv_iload_n hx hb dX8_menLetOff_45 rfl (lv_at hl 3 rfl) ?_
            refine lv_aload_n hx hb dX8_menLetOff_46 rfl (lv_at hl 1 rfl) ?_
            refine va_get (D := D) (ci := 3) (v := Value.ref cu) (C := RX3) (T := TX3) (N := 6) hx hb hts inG_X3 hown hK hP 2 rfl rfl 0 (by decide) (hts _ kw_1_216) (fun _ h9 => h9) rfl dX8_menLetOff_47 ?_
            refine va_get (D := D) (ci := 1) (v := Value.ref cu4) (C := RX1) (T := TX1) (N := 6) hx hb hts inG_X1 hown hK hP 3 rfl rfl 3 (by decide) (hts _ kw_1_105) (fun _ h9 => h9) rfl dX8_menLetOff_50 ?_
            refine lv_iload hx hb dX8_menLetOff_53 (lv_at hl 4 rfl) ?_
            refine m_iald hx hb hK hP 4 1 rfl rfl t rfl (by omega) (by decide) dX8_menLetOff_55 ?_
            refine lv_topi (fun v_7 ev_7 => ?_)
            refine lv_iload_n hx hb dX8_menLetOff_56 rfl (lv_at hl 2 rfl) ?_
            refine lv_aload_n hx hb dX8_menLetOff_57 rfl (lv_at hl 0 rfl) ?_
            refine va_get (D := D) (ci := 7) (v := Value.ref wy4) (C := RX8) (T := TX8) (N := 6) hx hb hts inG_X8 hown hK hP 0 rfl rfl 4 (by decide) (hts _ kw_2_52) (fun _ h9 => h9) rfl dX8_menLetOff_58 ?_
            refine lv_iload hx hb dX8_menLetOff_61 (lv_at hl 4 rfl) ?_
            refine m_iald hx hb hK hP 1 0 rfl rfl t rfl (by omega) (by decide) dX8_menLetOff_63 ?_
            refine lv_topi (fun v_8 ev_8 => ?_)
            refine lv_isub hx hb dX8_menLetOff_64 ?_
            refine lv_topi (fun z_9 ez_9 => ?_)
            refine lv_imul hx hb dX8_menLetOff_65 ?_
            refine lv_topi (fun z_10 ez_10 => ?_)
            refine lv_iadd hx hb dX8_menLetOff_66 ?_
            refine lv_topi (fun z_11 ez_11 => ?_)
            refine lv_istore_n (lv' := [(3, Value.int z_11), (0, Value.ref h0), (1, Value.ref fa), (2, Value.int x), (4, Value.int (nI t))]) hx hb dX8_menLetOff_67 rfl hl (by decide) rfl (fun ls hl => ?_)
            refine lv_iinc (v := nI (t + 1)) (lv' := [(4, Value.int (nI (t + 1))), (3, Value.int z_11), (0, Value.ref h0), (1, Value.ref fa), (2, Value.int x)]) hx hb dX8_menLetOff_68 hl (k := 4) rfl (nI_add t 1) (by decide) rfl (fun ls hl => ?_)
            refine lv_goto (tgt := 5) hx hb dX8_menLetOff_71 (by decide) ?_
            exact ih z_11 (t + 1) (by omega) (by omega) H locs (hP.sub [0, 1, 2, 3, 4] rfl) (hD.sub [0, 1, 2, 3, 4] (by decide) rfl) hS ls (lv_sub hl [2, 3, 4, 1, 0] rfl)
theorem dX8_menLetOff_0 : decode cX8_menLetOff 0 = .ok (.iconst 0, 1) := by decide +kernel
theorem dX8_menLetOff_1 : decode cX8_menLetOff 1 = .ok (.istore_n 3, 1) := by decide +kernel
theorem dX8_menLetOff_2 : decode cX8_menLetOff 2 = .ok (.iconst 0, 1) := by decide +kernel
theorem dX8_menLetOff_3 : decode cX8_menLetOff 3 = .ok (.istore 4, 2) := by decide +kernel
theorem dX8_menLetOff_74 : decode cX8_menLetOff 74 = .ok (.iload_n 3, 1) := by decide +kernel
theorem dX8_menLetOff_75 : decode cX8_menLetOff 75 = .ok (.ireturn, 1) := by decide +kernel
set_option maxHeartbeats 4000000 in
set_option maxRecDepth 100000 in
theorem c_menLetOff (l : Launch) (D : va_G) (h0 : Nat) (fa : Nat) (cu : Nat) (rv : Nat) (bt : Nat) (wy1 : Nat) (wy2 : Nat) (wy3 : Nat) (wy4 : Nat) (cu1 : Nat) (cu2 : Nat) (cu3 : Nat) (cu4 : Nat) (wc4 : ClassId) (cc4 : ClassId) (s4 : Nat → Int32) (cf4 : Nat → Int32) (qd : Int32) (cr : Int32) (sc : Int32) (to : Int32) (bc : Nat) (ho : Int32) (fe : Int32) (x : Int32) : cI l yX8_menLetOff (.code yX8_menLetOff cX8_menLetOff 5 (some .int)) ({ frames := 0, cells := 0, slots := 0, locals := 0 }) D [(wc4, .int), (cc4, .int)] [(h0, Sum.inr (7, [Value.ref wy1, Value.ref wy2, Value.int qd, Value.ref wy3, Value.ref wy4, Value.int cr])), (wy4, Sum.inl (wc4, 4, Sum.inl s4)), (fa, Sum.inr (3, [Value.ref cu, Value.ref rv, Value.ref bt, Value.int (nI bc), Value.int ho, Value.int fe])), (cu, Sum.inr (1, [Value.ref cu1, Value.ref cu2, Value.ref cu3, Value.ref cu4, Value.int sc, Value.int to])), (cu4, Sum.inl (cc4, 4, Sum.inl cf4))] xT [Value.ref h0, Value.ref fa, Value.int x] (S := Unit) (fun r _ => r = r) (fun _ => []) (fun _ => [(h0, Sum.inr (7, [Value.ref wy1, Value.ref wy2, Value.int qd, Value.ref wy3, Value.ref wy4, Value.int cr])), (wy4, Sum.inl (wc4, 4, Sum.inl s4)), (fa, Sum.inr (3, [Value.ref cu, Value.ref rv, Value.ref bt, Value.int (nI bc), Value.int ho, Value.int fe])), (cu, Sum.inr (1, [Value.ref cu1, Value.ref cu2, Value.ref cu3, Value.ref cu4, Value.int sc, Value.int to])), (cu4, Sum.inl (cc4, 4, Sum.inl cf4))]) := by
  intro sz
  refine Met.ofW (cc := cX8_menLetOff) (maxL := 5) (ret := (some .int)) (by decide) rfl ?_
  intro p e s m args below meth c s₁ B hml hv
  obtain ⟨rfl, hsz, hP, hK, hD0, hX⟩ := hv
  have hx := B.exec
  have hb := B.bytes
  have hr := B.returns
  have hts0 := atoms_spec (ws := .code yX8_menLetOff cX8_menLetOff 5 (some .int) :: gw) B.pre
  have hts := fun (w : Cond) (h : w ∈ gw) => hts0 w (List.mem_cons_of_mem _ h)
  have hown : s.vm.findClass RX8 = some m.cls := findClass_of_methodNamed B.named
  have hlocks := B.notSynchronized
  have F : mFix p s m _ c cX8_menLetOff 5 RX8 := ⟨hx, hb, hml, hown, hts⟩
  subst hsz
  have hD := hD0.self (sz := s.heap.size)
  generalize hAe : va_A [(h0, Sum.inr (7, [Value.ref wy1, Value.ref wy2, Value.int qd, Value.ref wy3, Value.ref wy4, Value.int cr])), (wy4, Sum.inl (wc4, 4, Sum.inl s4)), (fa, Sum.inr (3, [Value.ref cu, Value.ref rv, Value.ref bt, Value.int (nI bc), Value.int ho, Value.int fe])), (cu, Sum.inr (1, [Value.ref cu1, Value.ref cu2, Value.ref cu3, Value.ref cu4, Value.int sc, Value.int to])), (cu4, Sum.inl (cc4, 4, Sum.inl cf4))] s.heap.size = A at hD hX ⊢
  have hA : ∀ q : Nat, s.heap.size ≤ q → A q := fun q h => by rw [← hAe]; exact Or.inr h
  have hS : va_S A s.heap s.heap [] := va_S.rf
  have hl := lv_entry ([Value.ref h0, Value.ref fa, Value.int x]) (n := 5) (Nat.le_of_ble_eq_true rfl)
  rw [lg_entry_eq]
  generalize (lg_sl ([Value.ref h0, Value.ref fa, Value.int x]) ++ List.replicate (5 - (lg_sl ([Value.ref h0, Value.ref fa, Value.int x])).length) Slot.unset).toArray = ls at hl ⊢
  have hl : lv_has ls 5 [(0, Value.ref h0), (1, Value.ref fa), (2, Value.int x)] := hl
  have hP : va_P D vwCl [(h0, Sum.inr (7, [Value.ref wy1, Value.ref wy2, Value.int qd, Value.ref wy3, Value.ref wy4, Value.int cr])), (wy4, Sum.inl (wc4, 4, Sum.inl s4)), (fa, Sum.inr (3, [Value.ref cu, Value.ref rv, Value.ref bt, Value.int (nI bc), Value.int ho, Value.int fe])), (cu, Sum.inr (1, [Value.ref cu1, Value.ref cu2, Value.ref cu3, Value.ref cu4, Value.int sc, Value.int to])), (cu4, Sum.inl (cc4, 4, Sum.inl cf4))] s.heap := hP
  refine lv_iconst (v := 0) hx hb dX8_menLetOff_0 (by decide) ?_
  refine lv_istore_n (lv' := [(3, Value.int 0), (0, Value.ref h0), (1, Value.ref fa), (2, Value.int x)]) hx hb dX8_menLetOff_1 rfl hl (by decide) rfl (fun ls hl => ?_)
  refine lv_iconst (v := 0) hx hb dX8_menLetOff_2 (by decide) ?_
  refine lv_istore (lv' := [(4, Value.int 0), (3, Value.int 0), (0, Value.ref h0), (1, Value.ref fa), (2, Value.int x)]) hx hb dX8_menLetOff_3 hl (by decide) rfl (fun ls hl => ?_)
  refine lp_menLet F hA h0 fa cu rv bt wy1 wy2 wy3 wy4 cu1 cu2 cu3 cu4 wc4 cc4 s4 cf4 qd cr sc to bc ho fe x (hK.sub [0, 1] rfl) (fun n9_1  H locs hP hD hS ls hl => ?_) _ 0 0 (by omega) (Nat.lt_succ_self _) _ _ (hP.sub [0, 1, 2, 3, 4] rfl) (hD.sub [0, 1, 2, 3, 4] (by decide) rfl) hS ls (lv_sub hl [2, 3, 4, 1, 0] rfl)
  refine lv_iload_n hx hb dX8_menLetOff_74 rfl (lv_at hl 0 rfl) ?_
  have hP9 := hP.sub (ws' := [(h0, Sum.inr (7, [Value.ref wy1, Value.ref wy2, Value.int qd, Value.ref wy3, Value.ref wy4, Value.int cr])), (wy4, Sum.inl (wc4, 4, Sum.inl s4)), (fa, Sum.inr (3, [Value.ref cu, Value.ref rv, Value.ref bt, Value.int (nI bc), Value.int ho, Value.int fe])), (cu, Sum.inr (1, [Value.ref cu1, Value.ref cu2, Value.ref cu3, Value.ref cu4, Value.int sc, Value.int to])), (cu4, Sum.inl (cc4, 4, Sum.inl cf4))]) [0, 1, 2, 3, 4] rfl
  have hD9 := hD.sub (ws' := [(h0, Sum.inr (7, [Value.ref wy1, Value.ref wy2, Value.int qd, Value.ref wy3, Value.ref wy4, Value.int cr])), (wy4, Sum.inl (wc4, 4, Sum.inl s4)), (fa, Sum.inr (3, [Value.ref cu, Value.ref rv, Value.ref bt, Value.int (nI bc), Value.int ho, Value.int fe])), (cu, Sum.inr (1, [Value.ref cu1, Value.ref cu2, Value.ref cu3, Value.ref cu4, Value.int sc, Value.int to])), (cu4, Sum.inl (cc4, 4, Sum.inl cf4))]) [0, 1, 2, 3, 4] (by decide) rfl
  have hK9 := hK.sub (tys' := []) [] rfl
  refine W.widen (k := 0) (n := 0) (by decide) (by decide) ?_
  exact W.iret (v := n9_1) hx hb hr (fun t ht hW => ⟨⟨n9_1, (), rfl, rfl, by rw [ht]; exact hP9, va_K.moved hW.alike hK9, hD9⟩, hS.F ht⟩) hS.2.2 dX8_menLetOff_75
theorem dX8_minutesFor_3 : decode cX8_minutesFor 3 = .ok (.iload 4, 2) := by decide +kernel
theorem dX8_minutesFor_5 : decode cX8_minutesFor 5 = .ok (.sipush 2000, 3) := by decide +kernel
theorem dX8_minutesFor_8 : decode cX8_minutesFor 8 = .ok (.if_icmp .ge 20, 3) := by decide +kernel
theorem dX8_minutesFor_11 : decode cX8_minutesFor 11 = .ok (.aload_n 0, 1) := by decide +kernel
theorem dX8_minutesFor_12 : decode cX8_minutesFor 12 = .ok (.aload_n 1, 1) := by decide +kernel
theorem dX8_minutesFor_13 : decode cX8_minutesFor 13 = .ok (.iload 4, 2) := by decide +kernel
theorem kw_4_48 : Cond.methodLink RX8 88 yX8_menLetOff ∈ gw := gw_t4 (List.mem_of_getElem? (i := 48) (by decide +kernel)) (by decide +kernel)
theorem kw_4_50 : Cond.instanceMethod yX8_menLetOff ∈ gw := gw_t4 (List.mem_of_getElem? (i := 50) (by decide +kernel)) (by decide +kernel)
theorem ks_2_15 : Cond.selects RX8 yX8_menLetOff yX8_menLetOff ∈ gw := gw_s (y := yX8_menLetOff) (n := 6) (List.mem_append_right _ (List.mem_append_left _ (List.mem_of_getElem? (i := 15) (by decide +kernel))))
theorem kw_4_51 : Cond.code yX8_menLetOff cX8_menLetOff 5 (some .int) ∈ gw := gw_t4 (List.mem_of_getElem? (i := 51) (by decide +kernel)) (by decide +kernel)
theorem gk_X8_88 : GoodIn gw (wsV RX8 88 RX8 yX8_menLetOff (.code yX8_menLetOff cX8_menLetOff 5 (some .int) :: gw)) ∧ (yX8_menLetOff.cls = RX8 ∧ yX8_menLetOff.cls ≠ "java/lang/invoke/MethodHandle" ∧ yX8_menLetOff.cls ≠ "java/lang/invoke/VarHandle" ∧ (parseMethodDescriptor yX8_menLetOff.desc).map (fun d => d.parameters.length) = some 2) := ⟨gi_V kw_4_48 kw_4_50 ks_2_15 kw_1_10 kw_4_51, by decide +kernel⟩
theorem dX8_minutesFor_15 : decode cX8_minutesFor 15 = .ok (.invokevirtual 88, 3) := by decide +kernel
theorem dX8_minutesFor_18 : decode cX8_minutesFor 18 = .ok (.iload_n 2, 1) := by decide +kernel
theorem dX8_minutesFor_19 : decode cX8_minutesFor 19 = .ok (.if_icmp .ge 9, 3) := by decide +kernel
theorem dX8_minutesFor_22 : decode cX8_minutesFor 22 = .ok (.iinc 4 1, 3) := by decide +kernel
theorem dX8_minutesFor_25 : decode cX8_minutesFor 25 = .ok (.goto (-22), 3) := by decide +kernel
set_option maxHeartbeats 4000000 in
set_option maxRecDepth 100000 in
theorem lp_minutes {p : Program} {l : Launch} {e : Env} {s : State} {m : MethodId} {args : Array Value} {below : List Frame} {meth : Method} {c : Code} {Q : State → Prop} {A : Nat → Prop} {D : va_G} (F : mFix p s m args c cX8_minutesFor 5 RX8) (hA : ∀ q, s.heap.size ≤ q → A q) (h0 : Nat) (fa : Nat) (cu : Nat) (rv : Nat) (bt : Nat) (wy1 : Nat) (wy2 : Nat) (wy3 : Nat) (wy4 : Nat) (cu1 : Nat) (cu2 : Nat) (cu3 : Nat) (cu4 : Nat) (wc4 : ClassId) (cc4 : ClassId) (s4 : Nat → Int32) (cf4 : Nat → Int32) (qd : Int32) (cr : Int32) (sc : Int32) (to : Int32) (bc : Nat) (ho : Int32) (fe : Int32) (x : Int32) (hK : va_K D vwCl [(wc4, .int), (cc4, .int)] s)
    (kx_28 : ∀ (mi : Int32), ∀ (H : Heap) (locs : List Loc), va_P D vwCl [(h0, Sum.inr (7, [Value.ref wy1, Value.ref wy2, Value.int qd, Value.ref wy3, Value.ref wy4, Value.int cr])), (wy4, Sum.inl (wc4, 4, Sum.inl s4)), (fa, Sum.inr (3, [Value.ref cu, Value.ref rv, Value.ref bt, Value.int (nI bc), Value.int ho, Value.int fe])), (cu, Sum.inr (1, [Value.ref cu1, Value.ref cu2, Value.ref cu3, Value.ref cu4, Value.int sc, Value.int to])), (cu4, Sum.inl (cc4, 4, Sum.inl cf4))] H → va_D A [(h0, Sum.inr (7, [Value.ref wy1, Value.ref wy2, Value.int qd, Value.ref wy3, Value.ref wy4, Value.int cr])), (wy4, Sum.inl (wc4, 4, Sum.inl s4)), (fa, Sum.inr (3, [Value.ref cu, Value.ref rv, Value.ref bt, Value.int (nI bc), Value.int ho, Value.int fe])), (cu, Sum.inr (1, [Value.ref cu1, Value.ref cu2, Value.ref cu3, Value.ref cu4, Value.int sc, Value.int to])), (cu4, Sum.inl (cc4, 4, Sum.inl cf4))] → va_S A s.heap H locs → ∀ ls : Array Slot, lv_has ls 5 [(4, Value.int mi)] → W p l e ({ frames := 1, cells := 0, slots := 0, locals := 24 }) s m args below meth c H locs 0 0 Q (F0 m 28 ls [])) :
    ∀ n : Nat, ∀ (mi : Int32), (((2000 : Int32).toInt - mi.toInt).toNat) < n → ∀ (H : Heap) (locs : List Loc), va_P D vwCl [(h0, Sum.inr (7, [Value.ref wy1, Value.ref wy2, Value.int qd, Value.ref wy3, Value.ref wy4, Value.int cr])), (wy4, Sum.inl (wc4, 4, Sum.inl s4)), (fa, Sum.inr (3, [Value.ref cu, Value.ref rv, Value.ref bt, Value.int (nI bc), Value.int ho, Value.int fe])), (cu, Sum.inr (1, [Value.ref cu1, Value.ref cu2, Value.ref cu3, Value.ref cu4, Value.int sc, Value.int to])), (cu4, Sum.inl (cc4, 4, Sum.inl cf4))] H → va_D A [(h0, Sum.inr (7, [Value.ref wy1, Value.ref wy2, Value.int qd, Value.ref wy3, Value.ref wy4, Value.int cr])), (wy4, Sum.inl (wc4, 4, Sum.inl s4)), (fa, Sum.inr (3, [Value.ref cu, Value.ref rv, Value.ref bt, Value.int (nI bc), Value.int ho, Value.int fe])), (cu, Sum.inr (1, [Value.ref cu1, Value.ref cu2, Value.ref cu3, Value.ref cu4, Value.int sc, Value.int to])), (cu4, Sum.inl (cc4, 4, Sum.inl cf4))] → va_S A s.heap H locs → ∀ ls : Array Slot, lv_has ls 5 [(0, Value.ref h0), (1, Value.ref fa), (2, Value.int x), (4, Value.int mi)] → W p l e ({ frames := 1, cells := 0, slots := 0, locals := 24 }) s m args below meth c H locs 0 0 Q (F0 m 3 ls []) := by
  intro n
  induction n with
  | zero => intro mi  hn; exact absurd hn (Nat.not_lt_zero _)
  | succ n ih =>
    intro mi  hn H locs hP hD hS ls hl
    obtain ⟨hx, hb, hml, hown, hts⟩ := id F
    refine lv_iload hx hb dX8_minutesFor_3 (lv_at hl 3 rfl) ?_
    refine lv_sipush (v := 2000) hx hb dX8_minutesFor_5 (by decide) ?_
    refine lv_icmp_ge (tgt := 28) hx hb dX8_minutesFor_8 (by decide) (fun c_1 => ?_) (fun c_1 => ?_)
    · skip
      have c_1 := Int32.not_lt.mpr c_1
      exact kx_28 mi  H locs (hP.sub [0, 1, 2, 3, 4] rfl) (hD.sub [0, 1, 2, 3, 4] (by decide) rfl) hS ls (lv_sub hl [3] rfl)
    · skip
      have c_1 := Int32.not_le.mp c_1
      refine lv_aload_n hx hb dX8_minutesFor_11 rfl (lv_at hl 0 rfl) ?_
      refine lv_aload_n hx hb dX8_minutesFor_12 rfl (lv_at hl 1 rfl) ?_
      refine lv_iload hx hb dX8_minutesFor_13 (lv_at hl 3 rfl) ?_
      refine mc_Vi (rest := []) (wr := []) F hK hP hD hS hA (c_menLetOff l D h0 fa cu rv bt wy1 wy2 wy3 wy4 cu1 cu2 cu3 cu4 wc4 cc4 s4 cf4 qd cr sc to bc ho fe mi ) ⟨gk_X8_88.1, gk_X8_88.2, Nat.le_of_ble_eq_true rfl, Nat.le_of_ble_eq_true rfl⟩ [0, 1, 2, 3, 4] [] [0, 1] ⟨rfl, rfl, rfl, rfl, by decide⟩ rfl xT_move (fun _ _ _ => trivial) 0 rfl rfl rfl hl.1 rfl (Nat.le_of_ble_eq_true rfl) dX8_minutesFor_15 ⟨Nat.le_of_ble_eq_true rfl, Nat.le_of_ble_eq_true rfl⟩ (fun r_2 _ H locs hw hK1 hP hD hS => ?_)
      have hP : va_P D vwCl [(h0, Sum.inr (7, [Value.ref wy1, Value.ref wy2, Value.int qd, Value.ref wy3, Value.ref wy4, Value.int cr])), (wy4, Sum.inl (wc4, 4, Sum.inl s4)), (fa, Sum.inr (3, [Value.ref cu, Value.ref rv, Value.ref bt, Value.int (nI bc), Value.int ho, Value.int fe])), (cu, Sum.inr (1, [Value.ref cu1, Value.ref cu2, Value.ref cu3, Value.ref cu4, Value.int sc, Value.int to])), (cu4, Sum.inl (cc4, 4, Sum.inl cf4))] H := hP
      have hD : va_D A [(h0, Sum.inr (7, [Value.ref wy1, Value.ref wy2, Value.int qd, Value.ref wy3, Value.ref wy4, Value.int cr])), (wy4, Sum.inl (wc4, 4, Sum.inl s4)), (fa, Sum.inr (3, [Value.ref cu, Value.ref rv, Value.ref bt, Value.int (nI bc), Value.int ho, Value.int fe])), (cu, Sum.inr (1, [Value.ref cu1, Value.ref cu2, Value.ref cu3, Value.ref cu4, Value.int sc, Value.int to])), (cu4, Sum.inl (cc4, 4, Sum.inl cf4))] := hD
      have hw_3 : r_2 = r_2 := hw
      refine lv_iload_n hx hb dX8_minutesFor_18 rfl (lv_at hl 2 rfl) ?_
      refine lv_icmp_ge (tgt := 28) hx hb dX8_minutesFor_19 (by decide) (fun c_4 => ?_) (fun c_4 => ?_)
      · skip
        have c_4 := Int32.not_lt.mpr c_4
        exact kx_28 mi  H locs (hP.sub [0, 1, 2, 3, 4] rfl) (hD.sub [0, 1, 2, 3, 4] (by decide) rfl) hS ls (lv_sub hl [3] rfl)
      · skip
        have c_4 := Int32.not_le.mp c_4
        obtain ⟨z_5, ez_5⟩ : ∃ y : Int32, y = mi + 1 := ⟨_, rfl⟩
        refine lv_iinc (v := z_5) (lv' := [(4, Value.int z_5), (0, Value.ref h0), (1, Value.ref fa), (2, Value.int x)]) hx hb dX8_minutesFor_22 hl (k := 3) rfl (by rw [ez_5]; rfl) (by decide) rfl (fun ls hl => ?_)
        refine lv_goto (tgt := 3) hx hb dX8_minutesFor_25 (by decide) ?_
        exact ih z_5  (Nat.lt_of_lt_of_le (by rw [ez_5]; exact inc_lt c_1) (Nat.le_of_lt_succ hn)) H locs (hP.sub [0, 1, 2, 3, 4] rfl) (hD.sub [0, 1, 2, 3, 4] (by decide) rfl) hS ls (lv_sub hl [1, 2, 3, 0] rfl)
theorem dX8_minutesFor_0 : decode cX8_minutesFor 0 = .ok (.iload_n 3, 1) := by decide +kernel
theorem dX8_minutesFor_1 : decode cX8_minutesFor 1 = .ok (.istore 4, 2) := by decide +kernel
theorem dX8_minutesFor_28 : decode cX8_minutesFor 28 = .ok (.iload 4, 2) := by decide +kernel
theorem dX8_minutesFor_30 : decode cX8_minutesFor 30 = .ok (.ireturn, 1) := by decide +kernel
set_option maxHeartbeats 4000000 in
set_option maxRecDepth 100000 in
theorem c_minutesFor (l : Launch) (D : va_G) (h0 : Nat) (fa : Nat) (cu : Nat) (rv : Nat) (bt : Nat) (wy1 : Nat) (wy2 : Nat) (wy3 : Nat) (wy4 : Nat) (cu1 : Nat) (cu2 : Nat) (cu3 : Nat) (cu4 : Nat) (wc4 : ClassId) (cc4 : ClassId) (s4 : Nat → Int32) (cf4 : Nat → Int32) (qd : Int32) (cr : Int32) (sc : Int32) (to : Int32) (bc : Nat) (ho : Int32) (fe : Int32) (x : Int32) (y : Int32) : cI l yX8_minutesFor (.code yX8_minutesFor cX8_minutesFor 5 (some .int)) ({ frames := 1, cells := 0, slots := 0, locals := 24 }) D [(wc4, .int), (cc4, .int)] [(h0, Sum.inr (7, [Value.ref wy1, Value.ref wy2, Value.int qd, Value.ref wy3, Value.ref wy4, Value.int cr])), (wy4, Sum.inl (wc4, 4, Sum.inl s4)), (fa, Sum.inr (3, [Value.ref cu, Value.ref rv, Value.ref bt, Value.int (nI bc), Value.int ho, Value.int fe])), (cu, Sum.inr (1, [Value.ref cu1, Value.ref cu2, Value.ref cu3, Value.ref cu4, Value.int sc, Value.int to])), (cu4, Sum.inl (cc4, 4, Sum.inl cf4))] xT [Value.ref h0, Value.ref fa, Value.int x, Value.int y] (S := Unit) (fun r _ => r = r) (fun _ => []) (fun _ => [(h0, Sum.inr (7, [Value.ref wy1, Value.ref wy2, Value.int qd, Value.ref wy3, Value.ref wy4, Value.int cr])), (wy4, Sum.inl (wc4, 4, Sum.inl s4)), (fa, Sum.inr (3, [Value.ref cu, Value.ref rv, Value.ref bt, Value.int (nI bc), Value.int ho, Value.int fe])), (cu, Sum.inr (1, [Value.ref cu1, Value.ref cu2, Value.ref cu3, Value.ref cu4, Value.int sc, Value.int to])), (cu4, Sum.inl (cc4, 4, Sum.inl cf4))]) := by
  intro sz
  refine Met.ofW (cc := cX8_minutesFor) (maxL := 5) (ret := (some .int)) (by decide) rfl ?_
  intro p e s m args below meth c s₁ B hml hv
  obtain ⟨rfl, hsz, hP, hK, hD0, hX⟩ := hv
  have hx := B.exec
  have hb := B.bytes
  have hr := B.returns
  have hts0 := atoms_spec (ws := .code yX8_minutesFor cX8_minutesFor 5 (some .int) :: gw) B.pre
  have hts := fun (w : Cond) (h : w ∈ gw) => hts0 w (List.mem_cons_of_mem _ h)
  have hown : s.vm.findClass RX8 = some m.cls := findClass_of_methodNamed B.named
  have hlocks := B.notSynchronized
  have F : mFix p s m _ c cX8_minutesFor 5 RX8 := ⟨hx, hb, hml, hown, hts⟩
  subst hsz
  have hD := hD0.self (sz := s.heap.size)
  generalize hAe : va_A [(h0, Sum.inr (7, [Value.ref wy1, Value.ref wy2, Value.int qd, Value.ref wy3, Value.ref wy4, Value.int cr])), (wy4, Sum.inl (wc4, 4, Sum.inl s4)), (fa, Sum.inr (3, [Value.ref cu, Value.ref rv, Value.ref bt, Value.int (nI bc), Value.int ho, Value.int fe])), (cu, Sum.inr (1, [Value.ref cu1, Value.ref cu2, Value.ref cu3, Value.ref cu4, Value.int sc, Value.int to])), (cu4, Sum.inl (cc4, 4, Sum.inl cf4))] s.heap.size = A at hD hX ⊢
  have hA : ∀ q : Nat, s.heap.size ≤ q → A q := fun q h => by rw [← hAe]; exact Or.inr h
  have hS : va_S A s.heap s.heap [] := va_S.rf
  have hl := lv_entry ([Value.ref h0, Value.ref fa, Value.int x, Value.int y]) (n := 5) (Nat.le_of_ble_eq_true rfl)
  rw [lg_entry_eq]
  generalize (lg_sl ([Value.ref h0, Value.ref fa, Value.int x, Value.int y]) ++ List.replicate (5 - (lg_sl ([Value.ref h0, Value.ref fa, Value.int x, Value.int y])).length) Slot.unset).toArray = ls at hl ⊢
  have hl : lv_has ls 5 [(0, Value.ref h0), (1, Value.ref fa), (2, Value.int x), (3, Value.int y)] := hl
  have hP : va_P D vwCl [(h0, Sum.inr (7, [Value.ref wy1, Value.ref wy2, Value.int qd, Value.ref wy3, Value.ref wy4, Value.int cr])), (wy4, Sum.inl (wc4, 4, Sum.inl s4)), (fa, Sum.inr (3, [Value.ref cu, Value.ref rv, Value.ref bt, Value.int (nI bc), Value.int ho, Value.int fe])), (cu, Sum.inr (1, [Value.ref cu1, Value.ref cu2, Value.ref cu3, Value.ref cu4, Value.int sc, Value.int to])), (cu4, Sum.inl (cc4, 4, Sum.inl cf4))] s.heap := hP
  refine lv_iload_n hx hb dX8_minutesFor_0 rfl (lv_at hl 3 rfl) ?_
  refine lv_istore (lv' := [(4, Value.int y), (0, Value.ref h0), (1, Value.ref fa), (2, Value.int x), (3, Value.int y)]) hx hb dX8_minutesFor_1 hl (by decide) rfl (fun ls hl => ?_)
  refine lp_minutes F hA h0 fa cu rv bt wy1 wy2 wy3 wy4 cu1 cu2 cu3 cu4 wc4 cc4 s4 cf4 qd cr sc to bc ho fe x (hK.sub [0, 1] rfl) (fun mi_1  H locs hP hD hS ls hl => ?_) _ y  (Nat.lt_succ_self _) _ _ (hP.sub [0, 1, 2, 3, 4] rfl) (hD.sub [0, 1, 2, 3, 4] (by decide) rfl) hS ls (lv_sub hl [1, 2, 3, 0] rfl)
  refine lv_iload hx hb dX8_minutesFor_28 (lv_at hl 0 rfl) ?_
  have hP9 := hP.sub (ws' := [(h0, Sum.inr (7, [Value.ref wy1, Value.ref wy2, Value.int qd, Value.ref wy3, Value.ref wy4, Value.int cr])), (wy4, Sum.inl (wc4, 4, Sum.inl s4)), (fa, Sum.inr (3, [Value.ref cu, Value.ref rv, Value.ref bt, Value.int (nI bc), Value.int ho, Value.int fe])), (cu, Sum.inr (1, [Value.ref cu1, Value.ref cu2, Value.ref cu3, Value.ref cu4, Value.int sc, Value.int to])), (cu4, Sum.inl (cc4, 4, Sum.inl cf4))]) [0, 1, 2, 3, 4] rfl
  have hD9 := hD.sub (ws' := [(h0, Sum.inr (7, [Value.ref wy1, Value.ref wy2, Value.int qd, Value.ref wy3, Value.ref wy4, Value.int cr])), (wy4, Sum.inl (wc4, 4, Sum.inl s4)), (fa, Sum.inr (3, [Value.ref cu, Value.ref rv, Value.ref bt, Value.int (nI bc), Value.int ho, Value.int fe])), (cu, Sum.inr (1, [Value.ref cu1, Value.ref cu2, Value.ref cu3, Value.ref cu4, Value.int sc, Value.int to])), (cu4, Sum.inl (cc4, 4, Sum.inl cf4))]) [0, 1, 2, 3, 4] (by decide) rfl
  have hK9 := hK.sub (tys' := []) [] rfl
  refine W.widen (k := 0) (n := 0) (by decide) (by decide) ?_
  exact W.iret (v := mi_1) hx hb hr (fun t ht hW => ⟨⟨mi_1, (), rfl, rfl, by rw [ht]; exact hP9, va_K.moved hW.alike hK9, hD9⟩, hS.F ht⟩) hS.2.2 dX8_minutesFor_30
