set_option maxHeartbeats 4000000 in
set_option maxRecDepth 100000 in
theorem s_put (l : Launch) (D : va_G) (bo : Nat → Nat) (B1 : Nat → Int32) (B2 : Nat → Int32) (B3 : Nat → Int32) (B4 : Nat → Int32) (B5 : Nat → Int32) (B6 : Nat → Int32) (B7 : Nat → Int32) (fa : Nat) (cu : Nat) (rv : Nat) (bt : Nat) (bc : Nat) (ho : Int32) (fe : Int32) (w : Nat) (h : Nat) (q1 : Nat) (q2 : Nat) (q3 : Nat) (q4 : Nat) (q5 : Nat) (q6 : Nat) (cy3 : ClassId) (f3 : Nat → Int32) (cy4 : ClassId) (f4 : Nat → Int32) (b : Nat) (ci : Nat) (cj : Nat) (hb9 : b < 10) (h3 : w ≤ 10) (h4 : h ≤ 10) (hci : ci < w) (hcj : cj < h) : cV l yX3_put (.code yX3_put cX3_put 4 none) ({ frames := 2, cells := 0, slots := 0, locals := 47 }) D [(cy3, .int), (cy4, .int)] (bL bo B1 B2 B3 B4 B5 B6 B7 ++ ([(fa, Sum.inr (3, [Value.ref cu, Value.ref rv, Value.ref bt, Value.int (nI bc), Value.int ho, Value.int fe])), (rv, Sum.inr (5, [Value.int (nI w), Value.int (nI h), Value.ref q1, Value.ref q2, Value.ref q3, Value.ref q4, Value.ref q5, Value.ref q6])), (q3, Sum.inl (cy3, 100, Sum.inl f3)), (q4, Sum.inl (cy4, 100, Sum.inl f4))] : va_W)) xT [Value.ref fa, Value.ref (bo b), Value.int (nI ci), Value.int (nI cj)] (S := (Nat → Int32) × (Nat → Int32) × (Nat → Int32) × (Nat → Int32) × (Nat → Int32)) (fun u => match u with | (G5, G6, G7, g3, g4) => G5 = upd B5 b 1 ∧ G6 = upd B6 b (nI ci) ∧ G7 = upd B7 b (nI cj) ∧ g4 = upd f4 (cj * 10 + ci) (B1 b) ∧ ∀ c, c % 10 < w → c / 10 < h → g3 c = f3 c + B2 b * nI (shN (cj * 10 + ci) c)) (fun u => match u with | (G5, G6, G7, g3, g4) => []) (fun u => match u with | (G5, G6, G7, g3, g4) => (bL bo B1 B2 B3 B4 G5 G6 G7 ++ ([(fa, Sum.inr (3, [Value.ref cu, Value.ref rv, Value.ref bt, Value.int (nI bc), Value.int ho, Value.int fe])), (rv, Sum.inr (5, [Value.int (nI w), Value.int (nI h), Value.ref q1, Value.ref q2, Value.ref q3, Value.ref q4, Value.ref q5, Value.ref q6])), (q3, Sum.inl (cy3, 100, Sum.inl g3)), (q4, Sum.inl (cy4, 100, Sum.inl g4))] : va_W))) := by
  intro sz
  refine Met.ofW (cc := cX3_put) (maxL := 4) (ret := none) (by decide) rfl ?_
  intro p e s m args below meth c s₁ B hml hv
  obtain ⟨rfl, hsz, hP, hK, hD0, hX⟩ := hv
  have hx := B.exec
  have hb := B.bytes
  have hr := B.returns
  have hts0 := atoms_spec (ws := .code yX3_put cX3_put 4 none :: gw) B.pre
  have hts := fun (w : Cond) (h : w ∈ gw) => hts0 w (List.mem_cons_of_mem _ h)
  have hown : s.vm.findClass RX3 = some m.cls := findClass_of_methodNamed B.named
  have hlocks := B.notSynchronized
  have F : mFix p s m _ c cX3_put 4 RX3 := ⟨hx, hb, hml, hown, hts⟩
  subst hsz
  have hD := hD0.self (sz := s.heap.size)
  generalize hAe : va_A (bL bo B1 B2 B3 B4 B5 B6 B7 ++ ([(fa, Sum.inr (3, [Value.ref cu, Value.ref rv, Value.ref bt, Value.int (nI bc), Value.int ho, Value.int fe])), (rv, Sum.inr (5, [Value.int (nI w), Value.int (nI h), Value.ref q1, Value.ref q2, Value.ref q3, Value.ref q4, Value.ref q5, Value.ref q6])), (q3, Sum.inl (cy3, 100, Sum.inl f3)), (q4, Sum.inl (cy4, 100, Sum.inl f4))] : va_W)) s.heap.size = A at hD hX ⊢
  have hA : ∀ q : Nat, s.heap.size ≤ q → A q := fun q h => by rw [← hAe]; exact Or.inr h
  have hS : va_S A s.heap s.heap [] := va_S.rf
  have hl := lv_entry ([Value.ref fa, Value.ref (bo b), Value.int (nI ci), Value.int (nI cj)]) (n := 4) (Nat.le_of_ble_eq_true rfl)
  rw [lg_entry_eq]
  generalize (lg_sl ([Value.ref fa, Value.ref (bo b), Value.int (nI ci), Value.int (nI cj)]) ++ List.replicate (4 - (lg_sl ([Value.ref fa, Value.ref (bo b), Value.int (nI ci), Value.int (nI cj)])).length) Slot.unset).toArray = ls at hl ⊢
  have hl : lv_has ls 4 [(0, Value.ref fa), (1, Value.ref (bo b)), (2, Value.int (nI ci)), (3, Value.int (nI cj))] := hl
  have hP : va_P D vwCl (bL bo B1 B2 B3 B4 B5 B6 B7 ++ ([(fa, Sum.inr (3, [Value.ref cu, Value.ref rv, Value.ref bt, Value.int (nI bc), Value.int ho, Value.int fe])), (rv, Sum.inr (5, [Value.int (nI w), Value.int (nI h), Value.ref q1, Value.ref q2, Value.ref q3, Value.ref q4, Value.ref q5, Value.ref q6])), (q3, Sum.inl (cy3, 100, Sum.inl f3)), (q4, Sum.inl (cy4, 100, Sum.inl f4))] : va_W)) s.heap := hP
  refine lv_aload_n hx hb dX3_put_0 rfl (lv_at hl 0 rfl) ?_
  refine va_get (D := D) (ci := 3) (v := Value.ref rv) (C := RX3) (T := TX3) (N := 6) hx hb hts inG_X3 hown hK hP 10 rfl rfl 1 (by decide) (hts _ kw_1_219) (fun _ h9 => h9) rfl dX3_put_1 ?_
  refine lv_iload_n hx hb dX3_put_4 rfl (lv_at hl 2 rfl) ?_
  refine lv_iload_n hx hb dX3_put_5 rfl (lv_at hl 3 rfl) ?_
  refine mc_Vi (rest := []) (wr := (bL bo B1 B2 B3 B4 B5 B6 B7 ++ ([(fa, Sum.inr (3, [Value.ref cu, Value.ref rv, Value.ref bt, Value.int (nI bc), Value.int ho, Value.int fe])), (q3, Sum.inl (cy3, 100, Sum.inl f3)), (q4, Sum.inl (cy4, 100, Sum.inl f4))] : va_W))) F hK hP hD hS hA (c_has_in l D rv q1 q2 q3 q4 q5 q6 w h ci cj (by omega) (by omega) (by omega) (by omega)) ⟨gk_X3_111.1, gk_X3_111.2, Nat.le_of_ble_eq_true rfl, Nat.le_of_ble_eq_true rfl⟩ [11] [0, 1, 2, 3, 4, 5, 6, 7, 8, 9, 10, 12, 13] [] ⟨rfl, rfl, rfl, rfl, by decide⟩ rfl xT_move (fun _ _ _ => trivial) 11 rfl rfl rfl hl.1 rfl (Nat.le_of_ble_eq_true rfl) dX3_put_6 ⟨Nat.le_of_ble_eq_true rfl, Nat.le_of_ble_eq_true rfl⟩ (fun r_1 _ H locs hw hK1 hP hD hS => ?_)
  have hP : va_P D vwCl (bL bo B1 B2 B3 B4 B5 B6 B7 ++ ([(fa, Sum.inr (3, [Value.ref cu, Value.ref rv, Value.ref bt, Value.int (nI bc), Value.int ho, Value.int fe])), (q3, Sum.inl (cy3, 100, Sum.inl f3)), (q4, Sum.inl (cy4, 100, Sum.inl f4)), (rv, Sum.inr (5, [Value.int (nI w), Value.int (nI h), Value.ref q1, Value.ref q2, Value.ref q3, Value.ref q4, Value.ref q5, Value.ref q6]))] : va_W)) H := hP
  have hD : va_D A (bL bo B1 B2 B3 B4 B5 B6 B7 ++ ([(fa, Sum.inr (3, [Value.ref cu, Value.ref rv, Value.ref bt, Value.int (nI bc), Value.int ho, Value.int fe])), (q3, Sum.inl (cy3, 100, Sum.inl f3)), (q4, Sum.inl (cy4, 100, Sum.inl f4)), (rv, Sum.inr (5, [Value.int (nI w), Value.int (nI h), Value.ref q1, Value.ref q2, Value.ref q3, Value.ref q4, Value.ref q5, Value.ref q6]))] : va_W)) := hD
  have hw_2 : r_1 = 1 := hw
  obtain rfl : r_1 = 1 := hw_2
  refine lv_if_ne (tgt := 13) hx hb dX3_put_9 (by decide) (fun c_3 => ?_) (fun c_3 => absurd c_3 (by decide))
  refine lv_aload_n hx hb dX3_put_13 rfl (lv_at hl 1 rfl) ?_
  refine lv_iconst (v := 1) hx hb dX3_put_14 (by decide) ?_
  refine m_putB5 (v := 1) hx hb hts inG_X0 hown hK hP hD hS b (by omega) (hts _ kw_1_192) rfl rfl dX3_put_15 (fun B5_4 H locs eB5_4 hP hD hS => ?_)
  have hP : va_P D vwCl (bL bo B1 B2 B3 B4 B5_4 B6 B7 ++ ([(fa, Sum.inr (3, [Value.ref cu, Value.ref rv, Value.ref bt, Value.int (nI bc), Value.int ho, Value.int fe])), (q3, Sum.inl (cy3, 100, Sum.inl f3)), (q4, Sum.inl (cy4, 100, Sum.inl f4)), (rv, Sum.inr (5, [Value.int (nI w), Value.int (nI h), Value.ref q1, Value.ref q2, Value.ref q3, Value.ref q4, Value.ref q5, Value.ref q6]))] : va_W)) H := hP
  have hD : va_D A (bL bo B1 B2 B3 B4 B5_4 B6 B7 ++ ([(fa, Sum.inr (3, [Value.ref cu, Value.ref rv, Value.ref bt, Value.int (nI bc), Value.int ho, Value.int fe])), (q3, Sum.inl (cy3, 100, Sum.inl f3)), (q4, Sum.inl (cy4, 100, Sum.inl f4)), (rv, Sum.inr (5, [Value.int (nI w), Value.int (nI h), Value.ref q1, Value.ref q2, Value.ref q3, Value.ref q4, Value.ref q5, Value.ref q6]))] : va_W)) := hD
  refine lv_aload_n hx hb dX3_put_18 rfl (lv_at hl 1 rfl) ?_
  refine lv_iload_n hx hb dX3_put_19 rfl (lv_at hl 2 rfl) ?_
  refine m_putB6 (v := nI ci) hx hb hts inG_X0 hown hK hP hD hS b (by omega) (hts _ kw_1_195) rfl rfl dX3_put_20 (fun B6_5 H locs eB6_5 hP hD hS => ?_)
  have hP : va_P D vwCl (bL bo B1 B2 B3 B4 B5_4 B6_5 B7 ++ ([(fa, Sum.inr (3, [Value.ref cu, Value.ref rv, Value.ref bt, Value.int (nI bc), Value.int ho, Value.int fe])), (q3, Sum.inl (cy3, 100, Sum.inl f3)), (q4, Sum.inl (cy4, 100, Sum.inl f4)), (rv, Sum.inr (5, [Value.int (nI w), Value.int (nI h), Value.ref q1, Value.ref q2, Value.ref q3, Value.ref q4, Value.ref q5, Value.ref q6]))] : va_W)) H := hP
  have hD : va_D A (bL bo B1 B2 B3 B4 B5_4 B6_5 B7 ++ ([(fa, Sum.inr (3, [Value.ref cu, Value.ref rv, Value.ref bt, Value.int (nI bc), Value.int ho, Value.int fe])), (q3, Sum.inl (cy3, 100, Sum.inl f3)), (q4, Sum.inl (cy4, 100, Sum.inl f4)), (rv, Sum.inr (5, [Value.int (nI w), Value.int (nI h), Value.ref q1, Value.ref q2, Value.ref q3, Value.ref q4, Value.ref q5, Value.ref q6]))] : va_W)) := hD
  refine lv_aload_n hx hb dX3_put_23 rfl (lv_at hl 1 rfl) ?_
  refine lv_iload_n hx hb dX3_put_24 rfl (lv_at hl 3 rfl) ?_
  refine m_putB7 (v := nI cj) hx hb hts inG_X0 hown hK hP hD hS b (by omega) (hts _ kw_1_198) rfl rfl dX3_put_25 (fun B7_6 H locs eB7_6 hP hD hS => ?_)
  have hP : va_P D vwCl (bL bo B1 B2 B3 B4 B5_4 B6_5 B7_6 ++ ([(fa, Sum.inr (3, [Value.ref cu, Value.ref rv, Value.ref bt, Value.int (nI bc), Value.int ho, Value.int fe])), (q3, Sum.inl (cy3, 100, Sum.inl f3)), (q4, Sum.inl (cy4, 100, Sum.inl f4)), (rv, Sum.inr (5, [Value.int (nI w), Value.int (nI h), Value.ref q1, Value.ref q2, Value.ref q3, Value.ref q4, Value.ref q5, Value.ref q6]))] : va_W)) H := hP
  have hD : va_D A (bL bo B1 B2 B3 B4 B5_4 B6_5 B7_6 ++ ([(fa, Sum.inr (3, [Value.ref cu, Value.ref rv, Value.ref bt, Value.int (nI bc), Value.int ho, Value.int fe])), (q3, Sum.inl (cy3, 100, Sum.inl f3)), (q4, Sum.inl (cy4, 100, Sum.inl f4)), (rv, Sum.inr (5, [Value.int (nI w), Value.int (nI h), Value.ref q1, Value.ref q2, Value.ref q3, Value.ref q4, Value.ref q5, Value.ref q6]))] : va_W)) := hD
  refine lv_aload_n hx hb dX3_put_28 rfl (lv_at hl 0 rfl) ?_
  refine va_get (D := D) (ci := 3) (v := Value.ref rv) (C := RX3) (T := TX3) (N := 6) hx hb hts inG_X3 hown hK hP 10 rfl rfl 1 (by decide) (hts _ kw_1_219) (fun _ h9 => h9) rfl dX3_put_29 ?_
  refine va_get (D := D) (ci := 5) (v := Value.ref q4) (C := RX6) (T := TX6) (N := 8) hx hb hts inG_X6 hown hK hP 13 rfl rfl 5 (by decide) (hts _ kw_1_155) (fun _ h9 => h9) rfl dX3_put_32 ?_
  refine lv_aload_n hx hb dX3_put_35 rfl (lv_at hl 0 rfl) ?_
  refine va_get (D := D) (ci := 3) (v := Value.ref rv) (C := RX3) (T := TX3) (N := 6) hx hb hts inG_X3 hown hK hP 10 rfl rfl 1 (by decide) (hts _ kw_1_219) (fun _ h9 => h9) rfl dX3_put_36 ?_
  refine lv_iload_n hx hb dX3_put_39 rfl (lv_at hl 2 rfl) ?_
  refine lv_iload_n hx hb dX3_put_40 rfl (lv_at hl 3 rfl) ?_
  refine mc_Vi (rest := [Value.ref q4]) (wr := (bL bo B1 B2 B3 B4 B5_4 B6_5 B7_6 ++ ([(fa, Sum.inr (3, [Value.ref cu, Value.ref rv, Value.ref bt, Value.int (nI bc), Value.int ho, Value.int fe])), (q3, Sum.inl (cy3, 100, Sum.inl f3)), (q4, Sum.inl (cy4, 100, Sum.inl f4))] : va_W))) F hK hP hD hS hA (c_spotOf l D rv q1 q2 q3 q4 q5 q6 w h ci cj ) ⟨gk_X3_118.1, gk_X3_118.2, Nat.le_of_ble_eq_true rfl, Nat.le_of_ble_eq_true rfl⟩ [13] [0, 1, 2, 3, 4, 5, 6, 7, 8, 9, 10, 11, 12] [] ⟨rfl, rfl, rfl, rfl, by decide⟩ rfl xT_move (fun _ _ _ => trivial) 13 rfl rfl rfl hl.1 rfl (Nat.le_of_ble_eq_true rfl) dX3_put_41 ⟨Nat.le_of_ble_eq_true rfl, Nat.le_of_ble_eq_true rfl⟩ (fun r_7 _ H locs hw hK1 hP hD hS => ?_)
  have hP : va_P D vwCl (bL bo B1 B2 B3 B4 B5_4 B6_5 B7_6 ++ ([(fa, Sum.inr (3, [Value.ref cu, Value.ref rv, Value.ref bt, Value.int (nI bc), Value.int ho, Value.int fe])), (q3, Sum.inl (cy3, 100, Sum.inl f3)), (q4, Sum.inl (cy4, 100, Sum.inl f4)), (rv, Sum.inr (5, [Value.int (nI w), Value.int (nI h), Value.ref q1, Value.ref q2, Value.ref q3, Value.ref q4, Value.ref q5, Value.ref q6]))] : va_W)) H := hP
  have hD : va_D A (bL bo B1 B2 B3 B4 B5_4 B6_5 B7_6 ++ ([(fa, Sum.inr (3, [Value.ref cu, Value.ref rv, Value.ref bt, Value.int (nI bc), Value.int ho, Value.int fe])), (q3, Sum.inl (cy3, 100, Sum.inl f3)), (q4, Sum.inl (cy4, 100, Sum.inl f4)), (rv, Sum.inr (5, [Value.int (nI w), Value.int (nI h), Value.ref q1, Value.ref q2, Value.ref q3, Value.ref q4, Value.ref q5, Value.ref q6]))] : va_W)) := hD
  have hw_8 : r_7 = nI (cj * 10 + ci) := hw
  obtain rfl : r_7 = nI (cj * 10 + ci) := hw_8
  refine lv_aload_n hx hb dX3_put_44 rfl (lv_at hl 1 rfl) ?_
  refine va_get (D := D) (ci := 0) (v := .int (B1 b)) (C := RX0) (T := TX0) (N := 7) hx hb hts inG_X0 hown hK hP b (bL_get (by omega)) rfl 0 (by decide) (hts _ kw_1_185) (fun _ h9 => h9) rfl dX3_put_45 ?_
  refine m_iast hx hb hK hP hD hS 12 1 rfl rfl (cj * 10 + ci) rfl (by omega) (by decide) dX3_put_48 (fun g_9 H locs eg_9 hP hD hS => ?_)
  have hP : va_P D vwCl (bL bo B1 B2 B3 B4 B5_4 B6_5 B7_6 ++ ([(fa, Sum.inr (3, [Value.ref cu, Value.ref rv, Value.ref bt, Value.int (nI bc), Value.int ho, Value.int fe])), (q3, Sum.inl (cy3, 100, Sum.inl f3)), (q4, Sum.inl (cy4, 100, Sum.inl g_9)), (rv, Sum.inr (5, [Value.int (nI w), Value.int (nI h), Value.ref q1, Value.ref q2, Value.ref q3, Value.ref q4, Value.ref q5, Value.ref q6]))] : va_W)) H := hP
  have hD : va_D A (bL bo B1 B2 B3 B4 B5_4 B6_5 B7_6 ++ ([(fa, Sum.inr (3, [Value.ref cu, Value.ref rv, Value.ref bt, Value.int (nI bc), Value.int ho, Value.int fe])), (q3, Sum.inl (cy3, 100, Sum.inl f3)), (q4, Sum.inl (cy4, 100, Sum.inl g_9)), (rv, Sum.inr (5, [Value.int (nI w), Value.int (nI h), Value.ref q1, Value.ref q2, Value.ref q3, Value.ref q4, Value.ref q5, Value.ref q6]))] : va_W)) := hD
  refine lv_aload_n hx hb dX3_put_49 rfl (lv_at hl 0 rfl) ?_
  refine va_get (D := D) (ci := 3) (v := Value.ref rv) (C := RX3) (T := TX3) (N := 6) hx hb hts inG_X3 hown hK hP 10 rfl rfl 1 (by decide) (hts _ kw_1_219) (fun _ h9 => h9) rfl dX3_put_50 ?_
  refine lv_iload_n hx hb dX3_put_53 rfl (lv_at hl 2 rfl) ?_
  refine lv_iload_n hx hb dX3_put_54 rfl (lv_at hl 3 rfl) ?_
  refine lv_aload_n hx hb dX3_put_55 rfl (lv_at hl 1 rfl) ?_
  refine va_get (D := D) (ci := 0) (v := .int (B2 b)) (C := RX0) (T := TX0) (N := 7) hx hb hts inG_X0 hown hK hP b (bL_get (by omega)) rfl 1 (by decide) (hts _ kw_1_186) (fun _ h9 => h9) rfl dX3_put_56 ?_
  refine mc_Vv (rest := []) (wr := (bL bo B1 B2 B3 B4 B5_4 B6_5 B7_6 ++ ([(fa, Sum.inr (3, [Value.ref cu, Value.ref rv, Value.ref bt, Value.int (nI bc), Value.int ho, Value.int fe])), (q4, Sum.inl (cy4, 100, Sum.inl g_9))] : va_W))) F hK hP hD hS hA (s_load l D rv w h q1 q2 q3 q4 q5 q6 cy3 f3 ci cj (B2 b) (by omega) (by omega) (by omega) (by omega)) ⟨gk_X3_121.1, gk_X3_121.2, Nat.le_of_ble_eq_true rfl, Nat.le_of_ble_eq_true rfl⟩ [13, 11] [0, 1, 2, 3, 4, 5, 6, 7, 8, 9, 10, 12] [0] ⟨rfl, rfl, rfl, rfl, by decide⟩ rfl xT_move (fun _ _ _ => trivial) 13 rfl rfl rfl hl.1 rfl (Nat.le_of_ble_eq_true rfl) dX3_put_59 ⟨Nat.le_of_ble_eq_true rfl, Nat.le_of_ble_eq_true rfl⟩ (fun g3_10 H locs hw hK1 hP hD hS => ?_)
  have hP : va_P D vwCl (bL bo B1 B2 B3 B4 B5_4 B6_5 B7_6 ++ ([(fa, Sum.inr (3, [Value.ref cu, Value.ref rv, Value.ref bt, Value.int (nI bc), Value.int ho, Value.int fe])), (q4, Sum.inl (cy4, 100, Sum.inl g_9)), (rv, Sum.inr (5, [Value.int (nI w), Value.int (nI h), Value.ref q1, Value.ref q2, Value.ref q3, Value.ref q4, Value.ref q5, Value.ref q6])), (q3, Sum.inl (cy3, 100, Sum.inl g3_10))] : va_W)) H := hP
  have hD : va_D A (bL bo B1 B2 B3 B4 B5_4 B6_5 B7_6 ++ ([(fa, Sum.inr (3, [Value.ref cu, Value.ref rv, Value.ref bt, Value.int (nI bc), Value.int ho, Value.int fe])), (q4, Sum.inl (cy4, 100, Sum.inl g_9)), (rv, Sum.inr (5, [Value.int (nI w), Value.int (nI h), Value.ref q1, Value.ref q2, Value.ref q3, Value.ref q4, Value.ref q5, Value.ref q6])), (q3, Sum.inl (cy3, 100, Sum.inl g3_10))] : va_W)) := hD
  have hw_12 : ∀ c, c % 10 < w → c / 10 < h → g3_10 c = f3 c + (B2 b) * nI (shN (cj * 10 + ci) c) := hw
  have hP9 := hP.sub (ws' := (bL bo B1 B2 B3 B4 B5_4 B6_5 B7_6 ++ ([(fa, Sum.inr (3, [Value.ref cu, Value.ref rv, Value.ref bt, Value.int (nI bc), Value.int ho, Value.int fe])), (rv, Sum.inr (5, [Value.int (nI w), Value.int (nI h), Value.ref q1, Value.ref q2, Value.ref q3, Value.ref q4, Value.ref q5, Value.ref q6])), (q3, Sum.inl (cy3, 100, Sum.inl g3_10)), (q4, Sum.inl (cy4, 100, Sum.inl g_9))] : va_W))) [0, 1, 2, 3, 4, 5, 6, 7, 8, 9, 10, 12, 13, 11] rfl
  have hD9 := hD.sub (ws' := (bL bo B1 B2 B3 B4 B5_4 B6_5 B7_6 ++ ([(fa, Sum.inr (3, [Value.ref cu, Value.ref rv, Value.ref bt, Value.int (nI bc), Value.int ho, Value.int fe])), (rv, Sum.inr (5, [Value.int (nI w), Value.int (nI h), Value.ref q1, Value.ref q2, Value.ref q3, Value.ref q4, Value.ref q5, Value.ref q6])), (q3, Sum.inl (cy3, 100, Sum.inl g3_10)), (q4, Sum.inl (cy4, 100, Sum.inl g_9))] : va_W))) [0, 1, 2, 3, 4, 5, 6, 7, 8, 9, 10, 12, 13, 11] (by decide) rfl
  have hK9 := hK.sub (tys' := []) [] rfl
  refine W.widen (k := 0) (n := 0) (by decide) (by decide) ?_
  exact W.vret hx hb hr (fun t ht hW => ⟨⟨(B5_4, B6_5, B7_6, g3_10, g_9), rfl, ⟨eB5_4, eB6_5, eB7_6, eg_9, hw_12⟩, by rw [ht]; exact hP9, va_K.moved hW.alike hK9, hD9⟩, hS.F ht⟩) hS.2.2 dX3_put_62
set_option maxHeartbeats 4000000 in
set_option maxRecDepth 100000 in
theorem s_lift (l : Launch) (D : va_G) (ci : Nat) (cj : Nat) (bo : Nat → Nat) (B1 : Nat → Int32) (B2 : Nat → Int32) (B3 : Nat → Int32) (B4 : Nat → Int32) (B5 : Nat → Int32) (B6 : Nat → Int32) (B7 : Nat → Int32) (fa : Nat) (cu : Nat) (rv : Nat) (bt : Nat) (bc : Nat) (ho : Int32) (fe : Int32) (w : Nat) (h : Nat) (q1 : Nat) (q2 : Nat) (q3 : Nat) (q4 : Nat) (q5 : Nat) (q6 : Nat) (cy3 : ClassId) (f3 : Nat → Int32) (cy4 : ClassId) (f4 : Nat → Int32) (b : Nat) (st : Int32) (hb9 : b < 10) (h3 : w ≤ 10) (h4 : h ≤ 10) (hci : ci < w) (hcj : cj < h) (hbx : B6 b = nI ci) (hby : B7 b = nI cj) : cV l yX3_lift (.code yX3_lift cX3_lift 3 none) ({ frames := 2, cells := 0, slots := 0, locals := 47 }) D [(cy3, .int), (cy4, .int)] (bL bo B1 B2 B3 B4 B5 B6 B7 ++ ([(fa, Sum.inr (3, [Value.ref cu, Value.ref rv, Value.ref bt, Value.int (nI bc), Value.int ho, Value.int fe])), (rv, Sum.inr (5, [Value.int (nI w), Value.int (nI h), Value.ref q1, Value.ref q2, Value.ref q3, Value.ref q4, Value.ref q5, Value.ref q6])), (q3, Sum.inl (cy3, 100, Sum.inl f3)), (q4, Sum.inl (cy4, 100, Sum.inl f4))] : va_W)) xT [Value.ref fa, Value.ref (bo b), Value.int st] (S := (Nat → Int32) × (Nat → Int32) × (Nat → Int32) × (Nat → Int32) × (Nat → Int32)) (fun u => match u with | (G5, G6, G7, g3, g4) => G5 = upd B5 b st ∧ G6 = upd B6 b (-1) ∧ G7 = upd B7 b (-1) ∧ g4 = upd f4 (cj * 10 + ci) (-1) ∧ ∀ c, c % 10 < w → c / 10 < h → g3 c = f3 c + (-(B2 b)) * nI (shN (cj * 10 + ci) c)) (fun u => match u with | (G5, G6, G7, g3, g4) => []) (fun u => match u with | (G5, G6, G7, g3, g4) => (bL bo B1 B2 B3 B4 G5 G6 G7 ++ ([(fa, Sum.inr (3, [Value.ref cu, Value.ref rv, Value.ref bt, Value.int (nI bc), Value.int ho, Value.int fe])), (rv, Sum.inr (5, [Value.int (nI w), Value.int (nI h), Value.ref q1, Value.ref q2, Value.ref q3, Value.ref q4, Value.ref q5, Value.ref q6])), (q3, Sum.inl (cy3, 100, Sum.inl g3)), (q4, Sum.inl (cy4, 100, Sum.inl g4))] : va_W))) := by
  intro sz
  refine Met.ofW (cc := cX3_lift) (maxL := 3) (ret := none) (by decide) rfl ?_
  intro p e s m args below meth c s₁ B hml hv
  obtain ⟨rfl, hsz, hP, hK, hD0, hX⟩ := hv
  have hx := B.exec
  have hb := B.bytes
  have hr := B.returns
  have hts0 := atoms_spec (ws := .code yX3_lift cX3_lift 3 none :: gw) B.pre
  have hts := fun (w : Cond) (h : w ∈ gw) => hts0 w (List.mem_cons_of_mem _ h)
  have hown : s.vm.findClass RX3 = some m.cls := findClass_of_methodNamed B.named
  have hlocks := B.notSynchronized
  have F : mFix p s m _ c cX3_lift 3 RX3 := ⟨hx, hb, hml, hown, hts⟩
  subst hsz
  have hD := hD0.self (sz := s.heap.size)
  generalize hAe : va_A (bL bo B1 B2 B3 B4 B5 B6 B7 ++ ([(fa, Sum.inr (3, [Value.ref cu, Value.ref rv, Value.ref bt, Value.int (nI bc), Value.int ho, Value.int fe])), (rv, Sum.inr (5, [Value.int (nI w), Value.int (nI h), Value.ref q1, Value.ref q2, Value.ref q3, Value.ref q4, Value.ref q5, Value.ref q6])), (q3, Sum.inl (cy3, 100, Sum.inl f3)), (q4, Sum.inl (cy4, 100, Sum.inl f4))] : va_W)) s.heap.size = A at hD hX ⊢
  have hA : ∀ q : Nat, s.heap.size ≤ q → A q := fun q h => by rw [← hAe]; exact Or.inr h
  have hS : va_S A s.heap s.heap [] := va_S.rf
  have hl := lv_entry ([Value.ref fa, Value.ref (bo b), Value.int st]) (n := 3) (Nat.le_of_ble_eq_true rfl)
  rw [lg_entry_eq]
  generalize (lg_sl ([Value.ref fa, Value.ref (bo b), Value.int st]) ++ List.replicate (3 - (lg_sl ([Value.ref fa, Value.ref (bo b), Value.int st])).length) Slot.unset).toArray = ls at hl ⊢
  have hl : lv_has ls 3 [(0, Value.ref fa), (1, Value.ref (bo b)), (2, Value.int st)] := hl
  have hP : va_P D vwCl (bL bo B1 B2 B3 B4 B5 B6 B7 ++ ([(fa, Sum.inr (3, [Value.ref cu, Value.ref rv, Value.ref bt, Value.int (nI bc), Value.int ho, Value.int fe])), (rv, Sum.inr (5, [Value.int (nI w), Value.int (nI h), Value.ref q1, Value.ref q2, Value.ref q3, Value.ref q4, Value.ref q5, Value.ref q6])), (q3, Sum.inl (cy3, 100, Sum.inl f3)), (q4, Sum.inl (cy4, 100, Sum.inl f4))] : va_W)) s.heap := hP
  refine lv_aload_n hx hb dX3_lift_0 rfl (lv_at hl 0 rfl) ?_
  refine va_get (D := D) (ci := 3) (v := Value.ref rv) (C := RX3) (T := TX3) (N := 6) hx hb hts inG_X3 hown hK hP 10 rfl rfl 1 (by decide) (hts _ kw_1_219) (fun _ h9 => h9) rfl dX3_lift_1 ?_
  refine lv_aload_n hx hb dX3_lift_4 rfl (lv_at hl 1 rfl) ?_
  refine va_get (D := D) (ci := 0) (v := .int (B6 b)) (C := RX0) (T := TX0) (N := 7) hx hb hts inG_X0 hown hK hP b (bL_get (by omega)) rfl 5 (by decide) (hts _ kw_1_195) (fun _ h9 => h9) rfl dX3_lift_5 ?_
  rw [hbx]
  refine lv_aload_n hx hb dX3_lift_8 rfl (lv_at hl 1 rfl) ?_
  refine va_get (D := D) (ci := 0) (v := .int (B7 b)) (C := RX0) (T := TX0) (N := 7) hx hb hts inG_X0 hown hK hP b (bL_get (by omega)) rfl 6 (by decide) (hts _ kw_1_198) (fun _ h9 => h9) rfl dX3_lift_9 ?_
  rw [hby]
  refine mc_Vi (rest := []) (wr := (bL bo B1 B2 B3 B4 B5 B6 B7 ++ ([(fa, Sum.inr (3, [Value.ref cu, Value.ref rv, Value.ref bt, Value.int (nI bc), Value.int ho, Value.int fe])), (q3, Sum.inl (cy3, 100, Sum.inl f3)), (q4, Sum.inl (cy4, 100, Sum.inl f4))] : va_W))) F hK hP hD hS hA (c_has_in l D rv q1 q2 q3 q4 q5 q6 w h ci cj (by omega) (by omega) (by omega) (by omega)) ⟨gk_X3_111.1, gk_X3_111.2, Nat.le_of_ble_eq_true rfl, Nat.le_of_ble_eq_true rfl⟩ [11] [0, 1, 2, 3, 4, 5, 6, 7, 8, 9, 10, 12, 13] [] ⟨rfl, rfl, rfl, rfl, by decide⟩ rfl xT_move (fun _ _ _ => trivial) 11 rfl rfl rfl hl.1 rfl (Nat.le_of_ble_eq_true rfl) dX3_lift_12 ⟨Nat.le_of_ble_eq_true rfl, Nat.le_of_ble_eq_true rfl⟩ (fun r_1 _ H locs hw hK1 hP hD hS => ?_)
  have hP : va_P D vwCl (bL bo B1 B2 B3 B4 B5 B6 B7 ++ ([(fa, Sum.inr (3, [Value.ref cu, Value.ref rv, Value.ref bt, Value.int (nI bc), Value.int ho, Value.int fe])), (q3, Sum.inl (cy3, 100, Sum.inl f3)), (q4, Sum.inl (cy4, 100, Sum.inl f4)), (rv, Sum.inr (5, [Value.int (nI w), Value.int (nI h), Value.ref q1, Value.ref q2, Value.ref q3, Value.ref q4, Value.ref q5, Value.ref q6]))] : va_W)) H := hP
  have hD : va_D A (bL bo B1 B2 B3 B4 B5 B6 B7 ++ ([(fa, Sum.inr (3, [Value.ref cu, Value.ref rv, Value.ref bt, Value.int (nI bc), Value.int ho, Value.int fe])), (q3, Sum.inl (cy3, 100, Sum.inl f3)), (q4, Sum.inl (cy4, 100, Sum.inl f4)), (rv, Sum.inr (5, [Value.int (nI w), Value.int (nI h), Value.ref q1, Value.ref q2, Value.ref q3, Value.ref q4, Value.ref q5, Value.ref q6]))] : va_W)) := hD
  have hw_2 : r_1 = 1 := hw
  obtain rfl : r_1 = 1 := hw_2
  refine lv_if_ne (tgt := 19) hx hb dX3_lift_15 (by decide) (fun c_3 => ?_) (fun c_3 => absurd c_3 (by decide))
  refine lv_aload_n hx hb dX3_lift_19 rfl (lv_at hl 0 rfl) ?_
  refine va_get (D := D) (ci := 3) (v := Value.ref rv) (C := RX3) (T := TX3) (N := 6) hx hb hts inG_X3 hown hK hP 10 rfl rfl 1 (by decide) (hts _ kw_1_219) (fun _ h9 => h9) rfl dX3_lift_20 ?_
  refine va_get (D := D) (ci := 5) (v := Value.ref q4) (C := RX6) (T := TX6) (N := 8) hx hb hts inG_X6 hown hK hP 13 rfl rfl 5 (by decide) (hts _ kw_1_155) (fun _ h9 => h9) rfl dX3_lift_23 ?_
  refine lv_aload_n hx hb dX3_lift_26 rfl (lv_at hl 0 rfl) ?_
  refine va_get (D := D) (ci := 3) (v := Value.ref rv) (C := RX3) (T := TX3) (N := 6) hx hb hts inG_X3 hown hK hP 10 rfl rfl 1 (by decide) (hts _ kw_1_219) (fun _ h9 => h9) rfl dX3_lift_27 ?_
  refine lv_aload_n hx hb dX3_lift_30 rfl (lv_at hl 1 rfl) ?_
  refine va_get (D := D) (ci := 0) (v := .int (B6 b)) (C := RX0) (T := TX0) (N := 7) hx hb hts inG_X0 hown hK hP b (bL_get (by omega)) rfl 5 (by decide) (hts _ kw_1_195) (fun _ h9 => h9) rfl dX3_lift_31 ?_
  rw [hbx]
  refine lv_aload_n hx hb dX3_lift_34 rfl (lv_at hl 1 rfl) ?_
  refine va_get (D := D) (ci := 0) (v := .int (B7 b)) (C := RX0) (T := TX0) (N := 7) hx hb hts inG_X0 hown hK hP b (bL_get (by omega)) rfl 6 (by decide) (hts _ kw_1_198) (fun _ h9 => h9) rfl dX3_lift_35 ?_
  rw [hby]
  refine mc_Vi (rest := [Value.ref q4]) (wr := (bL bo B1 B2 B3 B4 B5 B6 B7 ++ ([(fa, Sum.inr (3, [Value.ref cu, Value.ref rv, Value.ref bt, Value.int (nI bc), Value.int ho, Value.int fe])), (q3, Sum.inl (cy3, 100, Sum.inl f3)), (q4, Sum.inl (cy4, 100, Sum.inl f4))] : va_W))) F hK hP hD hS hA (c_spotOf l D rv q1 q2 q3 q4 q5 q6 w h ci cj ) ⟨gk_X3_118.1, gk_X3_118.2, Nat.le_of_ble_eq_true rfl, Nat.le_of_ble_eq_true rfl⟩ [13] [0, 1, 2, 3, 4, 5, 6, 7, 8, 9, 10, 11, 12] [] ⟨rfl, rfl, rfl, rfl, by decide⟩ rfl xT_move (fun _ _ _ => trivial) 13 rfl rfl rfl hl.1 rfl (Nat.le_of_ble_eq_true rfl) dX3_lift_38 ⟨Nat.le_of_ble_eq_true rfl, Nat.le_of_ble_eq_true rfl⟩ (fun r_4 _ H locs hw hK1 hP hD hS => ?_)
  have hP : va_P D vwCl (bL bo B1 B2 B3 B4 B5 B6 B7 ++ ([(fa, Sum.inr (3, [Value.ref cu, Value.ref rv, Value.ref bt, Value.int (nI bc), Value.int ho, Value.int fe])), (q3, Sum.inl (cy3, 100, Sum.inl f3)), (q4, Sum.inl (cy4, 100, Sum.inl f4)), (rv, Sum.inr (5, [Value.int (nI w), Value.int (nI h), Value.ref q1, Value.ref q2, Value.ref q3, Value.ref q4, Value.ref q5, Value.ref q6]))] : va_W)) H := hP
  have hD : va_D A (bL bo B1 B2 B3 B4 B5 B6 B7 ++ ([(fa, Sum.inr (3, [Value.ref cu, Value.ref rv, Value.ref bt, Value.int (nI bc), Value.int ho, Value.int fe])), (q3, Sum.inl (cy3, 100, Sum.inl f3)), (q4, Sum.inl (cy4, 100, Sum.inl f4)), (rv, Sum.inr (5, [Value.int (nI w), Value.int (nI h), Value.ref q1, Value.ref q2, Value.ref q3, Value.ref q4, Value.ref q5, Value.ref q6]))] : va_W)) := hD
  have hw_5 : r_4 = nI (cj * 10 + ci) := hw
  obtain rfl : r_4 = nI (cj * 10 + ci) := hw_5
  refine lv_iconst (v := -1) hx hb dX3_lift_41 (by decide) ?_
  refine m_iast hx hb hK hP hD hS 12 1 rfl rfl (cj * 10 + ci) rfl (by omega) (by decide) dX3_lift_42 (fun g_6 H locs eg_6 hP hD hS => ?_)
  have hP : va_P D vwCl (bL bo B1 B2 B3 B4 B5 B6 B7 ++ ([(fa, Sum.inr (3, [Value.ref cu, Value.ref rv, Value.ref bt, Value.int (nI bc), Value.int ho, Value.int fe])), (q3, Sum.inl (cy3, 100, Sum.inl f3)), (q4, Sum.inl (cy4, 100, Sum.inl g_6)), (rv, Sum.inr (5, [Value.int (nI w), Value.int (nI h), Value.ref q1, Value.ref q2, Value.ref q3, Value.ref q4, Value.ref q5, Value.ref q6]))] : va_W)) H := hP
  have hD : va_D A (bL bo B1 B2 B3 B4 B5 B6 B7 ++ ([(fa, Sum.inr (3, [Value.ref cu, Value.ref rv, Value.ref bt, Value.int (nI bc), Value.int ho, Value.int fe])), (q3, Sum.inl (cy3, 100, Sum.inl f3)), (q4, Sum.inl (cy4, 100, Sum.inl g_6)), (rv, Sum.inr (5, [Value.int (nI w), Value.int (nI h), Value.ref q1, Value.ref q2, Value.ref q3, Value.ref q4, Value.ref q5, Value.ref q6]))] : va_W)) := hD
  refine lv_aload_n hx hb dX3_lift_43 rfl (lv_at hl 0 rfl) ?_
  refine va_get (D := D) (ci := 3) (v := Value.ref rv) (C := RX3) (T := TX3) (N := 6) hx hb hts inG_X3 hown hK hP 10 rfl rfl 1 (by decide) (hts _ kw_1_219) (fun _ h9 => h9) rfl dX3_lift_44 ?_
  refine lv_aload_n hx hb dX3_lift_47 rfl (lv_at hl 1 rfl) ?_
  refine va_get (D := D) (ci := 0) (v := .int (B6 b)) (C := RX0) (T := TX0) (N := 7) hx hb hts inG_X0 hown hK hP b (bL_get (by omega)) rfl 5 (by decide) (hts _ kw_1_195) (fun _ h9 => h9) rfl dX3_lift_48 ?_
  rw [hbx]
  refine lv_aload_n hx hb dX3_lift_51 rfl (lv_at hl 1 rfl) ?_
  refine va_get (D := D) (ci := 0) (v := .int (B7 b)) (C := RX0) (T := TX0) (N := 7) hx hb hts inG_X0 hown hK hP b (bL_get (by omega)) rfl 6 (by decide) (hts _ kw_1_198) (fun _ h9 => h9) rfl dX3_lift_52 ?_
  rw [hby]
  refine lv_aload_n hx hb dX3_lift_55 rfl (lv_at hl 1 rfl) ?_
  refine va_get (D := D) (ci := 0) (v := .int (B2 b)) (C := RX0) (T := TX0) (N := 7) hx hb hts inG_X0 hown hK hP b (bL_get (by omega)) rfl 1 (by decide) (hts _ kw_1_186) (fun _ h9 => h9) rfl dX3_lift_56 ?_
  refine lv_ineg hx hb dX3_lift_59 ?_
  refine lv_topi (fun z_7 ez_7 => ?_)
  refine mc_Vv (rest := []) (wr := (bL bo B1 B2 B3 B4 B5 B6 B7 ++ ([(fa, Sum.inr (3, [Value.ref cu, Value.ref rv, Value.ref bt, Value.int (nI bc), Value.int ho, Value.int fe])), (q4, Sum.inl (cy4, 100, Sum.inl g_6))] : va_W))) F hK hP hD hS hA (s_load l D rv w h q1 q2 q3 q4 q5 q6 cy3 f3 ci cj z_7 (by omega) (by omega) (by omega) (by omega)) ⟨gk_X3_121.1, gk_X3_121.2, Nat.le_of_ble_eq_true rfl, Nat.le_of_ble_eq_true rfl⟩ [13, 11] [0, 1, 2, 3, 4, 5, 6, 7, 8, 9, 10, 12] [0] ⟨rfl, rfl, rfl, rfl, by decide⟩ rfl xT_move (fun _ _ _ => trivial) 13 rfl rfl rfl hl.1 rfl (Nat.le_of_ble_eq_true rfl) dX3_lift_60 ⟨Nat.le_of_ble_eq_true rfl, Nat.le_of_ble_eq_true rfl⟩ (fun g3_8 H locs hw hK1 hP hD hS => ?_)
  have hP : va_P D vwCl (bL bo B1 B2 B3 B4 B5 B6 B7 ++ ([(fa, Sum.inr (3, [Value.ref cu, Value.ref rv, Value.ref bt, Value.int (nI bc), Value.int ho, Value.int fe])), (q4, Sum.inl (cy4, 100, Sum.inl g_6)), (rv, Sum.inr (5, [Value.int (nI w), Value.int (nI h), Value.ref q1, Value.ref q2, Value.ref q3, Value.ref q4, Value.ref q5, Value.ref q6])), (q3, Sum.inl (cy3, 100, Sum.inl g3_8))] : va_W)) H := hP
  have hD : va_D A (bL bo B1 B2 B3 B4 B5 B6 B7 ++ ([(fa, Sum.inr (3, [Value.ref cu, Value.ref rv, Value.ref bt, Value.int (nI bc), Value.int ho, Value.int fe])), (q4, Sum.inl (cy4, 100, Sum.inl g_6)), (rv, Sum.inr (5, [Value.int (nI w), Value.int (nI h), Value.ref q1, Value.ref q2, Value.ref q3, Value.ref q4, Value.ref q5, Value.ref q6])), (q3, Sum.inl (cy3, 100, Sum.inl g3_8))] : va_W)) := hD
  have hw_10 : ∀ c, c % 10 < w → c / 10 < h → g3_8 c = f3 c + z_7 * nI (shN (cj * 10 + ci) c) := hw
  refine lv_aload_n hx hb dX3_lift_63 rfl (lv_at hl 1 rfl) ?_
  refine lv_iload_n hx hb dX3_lift_64 rfl (lv_at hl 2 rfl) ?_
  refine m_putB5 (v := st) hx hb hts inG_X0 hown hK hP hD hS b (by omega) (hts _ kw_1_192) rfl rfl dX3_lift_65 (fun B5_11 H locs eB5_11 hP hD hS => ?_)
  have hP : va_P D vwCl (bL bo B1 B2 B3 B4 B5_11 B6 B7 ++ ([(fa, Sum.inr (3, [Value.ref cu, Value.ref rv, Value.ref bt, Value.int (nI bc), Value.int ho, Value.int fe])), (q4, Sum.inl (cy4, 100, Sum.inl g_6)), (rv, Sum.inr (5, [Value.int (nI w), Value.int (nI h), Value.ref q1, Value.ref q2, Value.ref q3, Value.ref q4, Value.ref q5, Value.ref q6])), (q3, Sum.inl (cy3, 100, Sum.inl g3_8))] : va_W)) H := hP
  have hD : va_D A (bL bo B1 B2 B3 B4 B5_11 B6 B7 ++ ([(fa, Sum.inr (3, [Value.ref cu, Value.ref rv, Value.ref bt, Value.int (nI bc), Value.int ho, Value.int fe])), (q4, Sum.inl (cy4, 100, Sum.inl g_6)), (rv, Sum.inr (5, [Value.int (nI w), Value.int (nI h), Value.ref q1, Value.ref q2, Value.ref q3, Value.ref q4, Value.ref q5, Value.ref q6])), (q3, Sum.inl (cy3, 100, Sum.inl g3_8))] : va_W)) := hD
  refine lv_aload_n hx hb dX3_lift_68 rfl (lv_at hl 1 rfl) ?_
  refine lv_iconst (v := -1) hx hb dX3_lift_69 (by decide) ?_
  refine m_putB6 (v := (-1)) hx hb hts inG_X0 hown hK hP hD hS b (by omega) (hts _ kw_1_195) rfl rfl dX3_lift_70 (fun B6_12 H locs eB6_12 hP hD hS => ?_)
  have hP : va_P D vwCl (bL bo B1 B2 B3 B4 B5_11 B6_12 B7 ++ ([(fa, Sum.inr (3, [Value.ref cu, Value.ref rv, Value.ref bt, Value.int (nI bc), Value.int ho, Value.int fe])), (q4, Sum.inl (cy4, 100, Sum.inl g_6)), (rv, Sum.inr (5, [Value.int (nI w), Value.int (nI h), Value.ref q1, Value.ref q2, Value.ref q3, Value.ref q4, Value.ref q5, Value.ref q6])), (q3, Sum.inl (cy3, 100, Sum.inl g3_8))] : va_W)) H := hP
  have hD : va_D A (bL bo B1 B2 B3 B4 B5_11 B6_12 B7 ++ ([(fa, Sum.inr (3, [Value.ref cu, Value.ref rv, Value.ref bt, Value.int (nI bc), Value.int ho, Value.int fe])), (q4, Sum.inl (cy4, 100, Sum.inl g_6)), (rv, Sum.inr (5, [Value.int (nI w), Value.int (nI h), Value.ref q1, Value.ref q2, Value.ref q3, Value.ref q4, Value.ref q5, Value.ref q6])), (q3, Sum.inl (cy3, 100, Sum.inl g3_8))] : va_W)) := hD
  refine lv_aload_n hx hb dX3_lift_73 rfl (lv_at hl 1 rfl) ?_
  refine lv_iconst (v := -1) hx hb dX3_lift_74 (by decide) ?_
  refine m_putB7 (v := (-1)) hx hb hts inG_X0 hown hK hP hD hS b (by omega) (hts _ kw_1_198) rfl rfl dX3_lift_75 (fun B7_13 H locs eB7_13 hP hD hS => ?_)
  have hP : va_P D vwCl (bL bo B1 B2 B3 B4 B5_11 B6_12 B7_13 ++ ([(fa, Sum.inr (3, [Value.ref cu, Value.ref rv, Value.ref bt, Value.int (nI bc), Value.int ho, Value.int fe])), (q4, Sum.inl (cy4, 100, Sum.inl g_6)), (rv, Sum.inr (5, [Value.int (nI w), Value.int (nI h), Value.ref q1, Value.ref q2, Value.ref q3, Value.ref q4, Value.ref q5, Value.ref q6])), (q3, Sum.inl (cy3, 100, Sum.inl g3_8))] : va_W)) H := hP
  have hD : va_D A (bL bo B1 B2 B3 B4 B5_11 B6_12 B7_13 ++ ([(fa, Sum.inr (3, [Value.ref cu, Value.ref rv, Value.ref bt, Value.int (nI bc), Value.int ho, Value.int fe])), (q4, Sum.inl (cy4, 100, Sum.inl g_6)), (rv, Sum.inr (5, [Value.int (nI w), Value.int (nI h), Value.ref q1, Value.ref q2, Value.ref q3, Value.ref q4, Value.ref q5, Value.ref q6])), (q3, Sum.inl (cy3, 100, Sum.inl g3_8))] : va_W)) := hD
  have hP9 := hP.sub (ws' := (bL bo B1 B2 B3 B4 B5_11 B6_12 B7_13 ++ ([(fa, Sum.inr (3, [Value.ref cu, Value.ref rv, Value.ref bt, Value.int (nI bc), Value.int ho, Value.int fe])), (rv, Sum.inr (5, [Value.int (nI w), Value.int (nI h), Value.ref q1, Value.ref q2, Value.ref q3, Value.ref q4, Value.ref q5, Value.ref q6])), (q3, Sum.inl (cy3, 100, Sum.inl g3_8)), (q4, Sum.inl (cy4, 100, Sum.inl g_6))] : va_W))) [0, 1, 2, 3, 4, 5, 6, 7, 8, 9, 10, 12, 13, 11] rfl
  have hD9 := hD.sub (ws' := (bL bo B1 B2 B3 B4 B5_11 B6_12 B7_13 ++ ([(fa, Sum.inr (3, [Value.ref cu, Value.ref rv, Value.ref bt, Value.int (nI bc), Value.int ho, Value.int fe])), (rv, Sum.inr (5, [Value.int (nI w), Value.int (nI h), Value.ref q1, Value.ref q2, Value.ref q3, Value.ref q4, Value.ref q5, Value.ref q6])), (q3, Sum.inl (cy3, 100, Sum.inl g3_8)), (q4, Sum.inl (cy4, 100, Sum.inl g_6))] : va_W))) [0, 1, 2, 3, 4, 5, 6, 7, 8, 9, 10, 12, 13, 11] (by decide) rfl
  have hK9 := hK.sub (tys' := []) [] rfl
  refine W.widen (k := 0) (n := 0) (by decide) (by decide) ?_
  exact W.vret hx hb hr (fun t ht hW => ⟨⟨(B5_11, B6_12, B7_13, g3_8, g_6), rfl, ⟨eB5_11, eB6_12, eB7_13, eg_6, by rw [← ez_7]; exact hw_10⟩, by rw [ht]; exact hP9, va_K.moved hW.alike hK9, hD9⟩, hS.F ht⟩) hS.2.2 dX3_lift_78
set_option maxHeartbeats 4000000 in
set_option maxRecDepth 100000 in
theorem s_takeFee (l : Launch) (D : va_G) (bo : Nat → Nat) (B1 : Nat → Int32) (B2 : Nat → Int32) (B3 : Nat → Int32) (B4 : Nat → Int32) (B5 : Nat → Int32) (B6 : Nat → Int32) (B7 : Nat → Int32) (fa : Nat) (cu : Nat) (rv : Nat) (bt : Nat) (bc : Nat) (ho : Int32) (fe : Int32) (cu1 : Nat) (cu2 : Nat) (cu3 : Nat) (cu4 : Nat) (sc : Int32) (to : Int32) (cc1 : ClassId) (cf1 : Nat → Int32) (b : Nat) (hb9 : b < 10) : cI l yX3_takeFee (.code yX3_takeFee cX3_takeFee 3 (some .int)) ({ frames := 1, cells := 0, slots := 0, locals := 20 }) D [(cc1, .int)] (bL bo B1 B2 B3 B4 B5 B6 B7 ++ ([(fa, Sum.inr (3, [Value.ref cu, Value.ref rv, Value.ref bt, Value.int (nI bc), Value.int ho, Value.int fe])), (cu, Sum.inr (1, [Value.ref cu1, Value.ref cu2, Value.ref cu3, Value.ref cu4, Value.int sc, Value.int to])), (cu1, Sum.inl (cc1, 8, Sum.inl cf1))] : va_W)) xT [Value.ref fa, Value.ref (bo b)] (S := Int32) (fun r u => match u with | fe1 => r = cf1 6 * B2 b + (if B3 b = 0 then 0 else cf1 7) ∧ fe1 = fe + (cf1 6 * B2 b + (if B3 b = 0 then 0 else cf1 7))) (fun u => match u with | fe1 => []) (fun u => match u with | fe1 => (bL bo B1 B2 B3 B4 B5 B6 B7 ++ ([(fa, Sum.inr (3, [Value.ref cu, Value.ref rv, Value.ref bt, Value.int (nI bc), Value.int ho, Value.int fe1])), (cu, Sum.inr (1, [Value.ref cu1, Value.ref cu2, Value.ref cu3, Value.ref cu4, Value.int sc, Value.int to])), (cu1, Sum.inl (cc1, 8, Sum.inl cf1))] : va_W))) := by
  intro sz
  refine Met.ofW (cc := cX3_takeFee) (maxL := 3) (ret := (some .int)) (by decide) rfl ?_
  intro p e s m args below meth c s₁ B hml hv
  obtain ⟨rfl, hsz, hP, hK, hD0, hX⟩ := hv
  have hx := B.exec
  have hb := B.bytes
  have hr := B.returns
  have hts0 := atoms_spec (ws := .code yX3_takeFee cX3_takeFee 3 (some .int) :: gw) B.pre
  have hts := fun (w : Cond) (h : w ∈ gw) => hts0 w (List.mem_cons_of_mem _ h)
  have hown : s.vm.findClass RX3 = some m.cls := findClass_of_methodNamed B.named
  have hlocks := B.notSynchronized
  have F : mFix p s m _ c cX3_takeFee 3 RX3 := ⟨hx, hb, hml, hown, hts⟩
  subst hsz
  have hD := hD0.self (sz := s.heap.size)
  generalize hAe : va_A (bL bo B1 B2 B3 B4 B5 B6 B7 ++ ([(fa, Sum.inr (3, [Value.ref cu, Value.ref rv, Value.ref bt, Value.int (nI bc), Value.int ho, Value.int fe])), (cu, Sum.inr (1, [Value.ref cu1, Value.ref cu2, Value.ref cu3, Value.ref cu4, Value.int sc, Value.int to])), (cu1, Sum.inl (cc1, 8, Sum.inl cf1))] : va_W)) s.heap.size = A at hD hX ⊢
  have hA : ∀ q : Nat, s.heap.size ≤ q → A q := fun q h => by rw [← hAe]; exact Or.inr h
  have hS : va_S A s.heap s.heap [] := va_S.rf
  have hl := lv_entry ([Value.ref fa, Value.ref (bo b)]) (n := 3) (Nat.le_of_ble_eq_true rfl)
  rw [lg_entry_eq]
  generalize (lg_sl ([Value.ref fa, Value.ref (bo b)]) ++ List.replicate (3 - (lg_sl ([Value.ref fa, Value.ref (bo b)])).length) Slot.unset).toArray = ls at hl ⊢
  have hl : lv_has ls 3 [(0, Value.ref fa), (1, Value.ref (bo b))] := hl
  have hP : va_P D vwCl (bL bo B1 B2 B3 B4 B5 B6 B7 ++ ([(fa, Sum.inr (3, [Value.ref cu, Value.ref rv, Value.ref bt, Value.int (nI bc), Value.int ho, Value.int fe])), (cu, Sum.inr (1, [Value.ref cu1, Value.ref cu2, Value.ref cu3, Value.ref cu4, Value.int sc, Value.int to])), (cu1, Sum.inl (cc1, 8, Sum.inl cf1))] : va_W)) s.heap := hP
  refine lv_aload_n hx hb dX3_takeFee_0 rfl (lv_at hl 0 rfl) ?_
  refine va_get (D := D) (ci := 3) (v := Value.ref cu) (C := RX3) (T := TX3) (N := 6) hx hb hts inG_X3 hown hK hP 10 rfl rfl 0 (by decide) (hts _ kw_1_215) (fun _ h9 => h9) rfl dX3_takeFee_1 ?_
  refine mc_Vi (rest := []) (wr := (bL bo B1 B2 B3 B4 B5 B6 B7 ++ ([(fa, Sum.inr (3, [Value.ref cu, Value.ref rv, Value.ref bt, Value.int (nI bc), Value.int ho, Value.int fe]))] : va_W))) F hK hP hD hS hA (c_cu_feeByWeight l D cu cu1 cu2 cu3 cu4 cc1 cf1 sc to ) ⟨gk_X3_125.1, gk_X3_125.2, Nat.le_of_ble_eq_true rfl, Nat.le_of_ble_eq_true rfl⟩ [11, 12] [0, 1, 2, 3, 4, 5, 6, 7, 8, 9, 10] [0] ⟨rfl, rfl, rfl, rfl, by decide⟩ rfl xT_move (fun _ _ _ => trivial) 11 rfl rfl rfl hl.1 rfl (Nat.le_of_ble_eq_true rfl) dX3_takeFee_4 ⟨Nat.le_of_ble_eq_true rfl, Nat.le_of_ble_eq_true rfl⟩ (fun r_1 _ H locs hw hK1 hP hD hS => ?_)
  have hP : va_P D vwCl (bL bo B1 B2 B3 B4 B5 B6 B7 ++ ([(fa, Sum.inr (3, [Value.ref cu, Value.ref rv, Value.ref bt, Value.int (nI bc), Value.int ho, Value.int fe])), (cu, Sum.inr (1, [Value.ref cu1, Value.ref cu2, Value.ref cu3, Value.ref cu4, Value.int sc, Value.int to])), (cu1, Sum.inl (cc1, 8, Sum.inl cf1))] : va_W)) H := hP
  have hD : va_D A (bL bo B1 B2 B3 B4 B5 B6 B7 ++ ([(fa, Sum.inr (3, [Value.ref cu, Value.ref rv, Value.ref bt, Value.int (nI bc), Value.int ho, Value.int fe])), (cu, Sum.inr (1, [Value.ref cu1, Value.ref cu2, Value.ref cu3, Value.ref cu4, Value.int sc, Value.int to])), (cu1, Sum.inl (cc1, 8, Sum.inl cf1))] : va_W)) := hD
  have hw_2 : r_1 = cf1 6 := hw
  refine lv_aload_n hx hb dX3_takeFee_7 rfl (lv_at hl 1 rfl) ?_
  refine va_get (D := D) (ci := 0) (v := .int (B2 b)) (C := RX0) (T := TX0) (N := 7) hx hb hts inG_X0 hown hK hP b (bL_get (by omega)) rfl 1 (by decide) (hts _ kw_1_186) (fun _ h9 => h9) rfl dX3_takeFee_8 ?_
  refine lv_imul hx hb dX3_takeFee_11 ?_
  refine lv_topi (fun z_3 ez_3 => ?_)
  refine lv_aload_n hx hb dX3_takeFee_12 rfl (lv_at hl 1 rfl) ?_
  refine va_get (D := D) (ci := 0) (v := .int (B3 b)) (C := RX0) (T := TX0) (N := 7) hx hb hts inG_X0 hown hK hP b (bL_get (by omega)) rfl 2 (by decide) (hts _ kw_1_187) (fun _ h9 => h9) rfl dX3_takeFee_13 ?_
  refine lv_if_eq (tgt := 29) hx hb dX3_takeFee_16 (by decide) (fun c_4 => ?_) (fun c_4 => ?_)
  · skip
    refine lv_iconst (v := 0) hx hb dX3_takeFee_29 (by decide) ?_
    refine lv_iadd hx hb dX3_takeFee_30 ?_
    refine lv_topi (fun z_5 ez_5 => ?_)
    refine lv_istore_n (lv' := [(2, Value.int z_5), (0, Value.ref fa), (1, Value.ref (bo b))]) hx hb dX3_takeFee_31 rfl hl (by decide) rfl (fun ls hl => ?_)
    refine lv_aload_n hx hb dX3_takeFee_32 rfl (lv_at hl 1 rfl) ?_
    refine lv_dup hx hb dX3_takeFee_33 rfl ?_
    refine va_get (D := D) (ci := 3) (v := Value.int fe) (C := RX3) (T := TX3) (N := 6) hx hb hts inG_X3 hown hK hP 10 rfl rfl 5 (by decide) (hts _ kw_1_232) (fun _ h9 => h9) rfl dX3_takeFee_34 ?_
    refine lv_iload_n hx hb dX3_takeFee_37 rfl (lv_at hl 0 rfl) ?_
    refine lv_iadd hx hb dX3_takeFee_38 ?_
    refine lv_topi (fun z_6 ez_6 => ?_)
    refine va_put (D := D) (ci := 3) (v := Value.int z_6) (ty := .int) (C := RX3) (T := TX3) (N := 6) hx hb hts inG_X3 tyX3 tyX3_ok nmX3 hown hK hP hD hS 10 rfl rfl 5 (by decide) (hts _ kw_1_232) (fun _ h9 => h9) rfl (by decide +kernel) rfl rfl (Nat.le_of_ble_eq_true rfl) dX3_takeFee_39 (fun H locs hP hD hS => ?_)
    have hP : va_P D vwCl (bL bo B1 B2 B3 B4 B5 B6 B7 ++ ([(fa, Sum.inr (3, [Value.ref cu, Value.ref rv, Value.ref bt, Value.int (nI bc), Value.int ho, Value.int z_6])), (cu, Sum.inr (1, [Value.ref cu1, Value.ref cu2, Value.ref cu3, Value.ref cu4, Value.int sc, Value.int to])), (cu1, Sum.inl (cc1, 8, Sum.inl cf1))] : va_W)) H := hP
    have hD : va_D A (bL bo B1 B2 B3 B4 B5 B6 B7 ++ ([(fa, Sum.inr (3, [Value.ref cu, Value.ref rv, Value.ref bt, Value.int (nI bc), Value.int ho, Value.int z_6])), (cu, Sum.inr (1, [Value.ref cu1, Value.ref cu2, Value.ref cu3, Value.ref cu4, Value.int sc, Value.int to])), (cu1, Sum.inl (cc1, 8, Sum.inl cf1))] : va_W)) := hD
    refine lv_iload_n hx hb dX3_takeFee_42 rfl (lv_at hl 0 rfl) ?_
    have hP9 := hP.sub (ws' := (bL bo B1 B2 B3 B4 B5 B6 B7 ++ ([(fa, Sum.inr (3, [Value.ref cu, Value.ref rv, Value.ref bt, Value.int (nI bc), Value.int ho, Value.int z_6])), (cu, Sum.inr (1, [Value.ref cu1, Value.ref cu2, Value.ref cu3, Value.ref cu4, Value.int sc, Value.int to])), (cu1, Sum.inl (cc1, 8, Sum.inl cf1))] : va_W))) [0, 1, 2, 3, 4, 5, 6, 7, 8, 9, 10, 11, 12] rfl
    have hD9 := hD.sub (ws' := (bL bo B1 B2 B3 B4 B5 B6 B7 ++ ([(fa, Sum.inr (3, [Value.ref cu, Value.ref rv, Value.ref bt, Value.int (nI bc), Value.int ho, Value.int z_6])), (cu, Sum.inr (1, [Value.ref cu1, Value.ref cu2, Value.ref cu3, Value.ref cu4, Value.int sc, Value.int to])), (cu1, Sum.inl (cc1, 8, Sum.inl cf1))] : va_W))) [0, 1, 2, 3, 4, 5, 6, 7, 8, 9, 10, 11, 12] (by decide) rfl
    have hK9 := hK.sub (tys' := []) [] rfl
    refine W.widen (k := 0) (n := 0) (by decide) (by decide) ?_
    exact W.iret (v := z_5) hx hb hr (fun t ht hW => ⟨⟨z_5, z_6, rfl, (by rw [if_pos c_4]; exact ⟨by rw [ez_5, ez_3, hw_2], by rw [ez_6, ez_5, ez_3, hw_2]⟩), by rw [ht]; exact hP9, va_K.moved hW.alike hK9, hD9⟩, hS.F ht⟩) hS.2.2 dX3_takeFee_43
  · skip
    refine lv_aload_n hx hb dX3_takeFee_19 rfl (lv_at hl 0 rfl) ?_
    refine va_get (D := D) (ci := 3) (v := Value.ref cu) (C := RX3) (T := TX3) (N := 6) hx hb hts inG_X3 hown hK hP 10 rfl rfl 0 (by decide) (hts _ kw_1_215) (fun _ h9 => h9) rfl dX3_takeFee_20 ?_
    refine mc_Vi (rest := [Value.int z_3]) (wr := (bL bo B1 B2 B3 B4 B5 B6 B7 ++ ([(fa, Sum.inr (3, [Value.ref cu, Value.ref rv, Value.ref bt, Value.int (nI bc), Value.int ho, Value.int fe]))] : va_W))) F hK hP hD hS hA (c_cu_feeForFire l D cu cu1 cu2 cu3 cu4 cc1 cf1 sc to ) ⟨gk_X3_128.1, gk_X3_128.2, Nat.le_of_ble_eq_true rfl, Nat.le_of_ble_eq_true rfl⟩ [11, 12] [0, 1, 2, 3, 4, 5, 6, 7, 8, 9, 10] [0] ⟨rfl, rfl, rfl, rfl, by decide⟩ rfl xT_move (fun _ _ _ => trivial) 11 rfl rfl rfl hl.1 rfl (Nat.le_of_ble_eq_true rfl) dX3_takeFee_23 ⟨Nat.le_of_ble_eq_true rfl, Nat.le_of_ble_eq_true rfl⟩ (fun r_7 _ H locs hw hK1 hP hD hS => ?_)
    have hP : va_P D vwCl (bL bo B1 B2 B3 B4 B5 B6 B7 ++ ([(fa, Sum.inr (3, [Value.ref cu, Value.ref rv, Value.ref bt, Value.int (nI bc), Value.int ho, Value.int fe])), (cu, Sum.inr (1, [Value.ref cu1, Value.ref cu2, Value.ref cu3, Value.ref cu4, Value.int sc, Value.int to])), (cu1, Sum.inl (cc1, 8, Sum.inl cf1))] : va_W)) H := hP
    have hD : va_D A (bL bo B1 B2 B3 B4 B5 B6 B7 ++ ([(fa, Sum.inr (3, [Value.ref cu, Value.ref rv, Value.ref bt, Value.int (nI bc), Value.int ho, Value.int fe])), (cu, Sum.inr (1, [Value.ref cu1, Value.ref cu2, Value.ref cu3, Value.ref cu4, Value.int sc, Value.int to])), (cu1, Sum.inl (cc1, 8, Sum.inl cf1))] : va_W)) := hD
    have hw_8 : r_7 = cf1 7 := hw
    refine lv_goto (tgt := 30) hx hb dX3_takeFee_26 (by decide) ?_
    refine lv_iadd hx hb dX3_takeFee_30 ?_
    refine lv_topi (fun z_9 ez_9 => ?_)
    refine lv_istore_n (lv' := [(2, Value.int z_9), (0, Value.ref fa), (1, Value.ref (bo b))]) hx hb dX3_takeFee_31 rfl hl (by decide) rfl (fun ls hl => ?_)
    refine lv_aload_n hx hb dX3_takeFee_32 rfl (lv_at hl 1 rfl) ?_
    refine lv_dup hx hb dX3_takeFee_33 rfl ?_
    refine va_get (D := D) (ci := 3) (v := Value.int fe) (C := RX3) (T := TX3) (N := 6) hx hb hts inG_X3 hown hK hP 10 rfl rfl 5 (by decide) (hts _ kw_1_232) (fun _ h9 => h9) rfl dX3_takeFee_34 ?_
    refine lv_iload_n hx hb dX3_takeFee_37 rfl (lv_at hl 0 rfl) ?_
    refine lv_iadd hx hb dX3_takeFee_38 ?_
    refine lv_topi (fun z_10 ez_10 => ?_)
    refine va_put (D := D) (ci := 3) (v := Value.int z_10) (ty := .int) (C := RX3) (T := TX3) (N := 6) hx hb hts inG_X3 tyX3 tyX3_ok nmX3 hown hK hP hD hS 10 rfl rfl 5 (by decide) (hts _ kw_1_232) (fun _ h9 => h9) rfl (by decide +kernel) rfl rfl (Nat.le_of_ble_eq_true rfl) dX3_takeFee_39 (fun H locs hP hD hS => ?_)
    have hP : va_P D vwCl (bL bo B1 B2 B3 B4 B5 B6 B7 ++ ([(fa, Sum.inr (3, [Value.ref cu, Value.ref rv, Value.ref bt, Value.int (nI bc), Value.int ho, Value.int z_10])), (cu, Sum.inr (1, [Value.ref cu1, Value.ref cu2, Value.ref cu3, Value.ref cu4, Value.int sc, Value.int to])), (cu1, Sum.inl (cc1, 8, Sum.inl cf1))] : va_W)) H := hP
    have hD : va_D A (bL bo B1 B2 B3 B4 B5 B6 B7 ++ ([(fa, Sum.inr (3, [Value.ref cu, Value.ref rv, Value.ref bt, Value.int (nI bc), Value.int ho, Value.int z_10])), (cu, Sum.inr (1, [Value.ref cu1, Value.ref cu2, Value.ref cu3, Value.ref cu4, Value.int sc, Value.int to])), (cu1, Sum.inl (cc1, 8, Sum.inl cf1))] : va_W)) := hD
    refine lv_iload_n hx hb dX3_takeFee_42 rfl (lv_at hl 0 rfl) ?_
    have hP9 := hP.sub (ws' := (bL bo B1 B2 B3 B4 B5 B6 B7 ++ ([(fa, Sum.inr (3, [Value.ref cu, Value.ref rv, Value.ref bt, Value.int (nI bc), Value.int ho, Value.int z_10])), (cu, Sum.inr (1, [Value.ref cu1, Value.ref cu2, Value.ref cu3, Value.ref cu4, Value.int sc, Value.int to])), (cu1, Sum.inl (cc1, 8, Sum.inl cf1))] : va_W))) [0, 1, 2, 3, 4, 5, 6, 7, 8, 9, 10, 11, 12] rfl
    have hD9 := hD.sub (ws' := (bL bo B1 B2 B3 B4 B5 B6 B7 ++ ([(fa, Sum.inr (3, [Value.ref cu, Value.ref rv, Value.ref bt, Value.int (nI bc), Value.int ho, Value.int z_10])), (cu, Sum.inr (1, [Value.ref cu1, Value.ref cu2, Value.ref cu3, Value.ref cu4, Value.int sc, Value.int to])), (cu1, Sum.inl (cc1, 8, Sum.inl cf1))] : va_W))) [0, 1, 2, 3, 4, 5, 6, 7, 8, 9, 10, 11, 12] (by decide) rfl
    have hK9 := hK.sub (tys' := []) [] rfl
    refine W.widen (k := 0) (n := 0) (by decide) (by decide) ?_
    exact W.iret (v := z_9) hx hb hr (fun t ht hW => ⟨⟨z_9, z_10, rfl, (by rw [if_neg c_4]; exact ⟨by rw [ez_9, ez_3, hw_2, hw_8], by rw [ez_10, ez_9, ez_3, hw_2, hw_8]⟩), by rw [ht]; exact hP9, va_K.moved hW.alike hK9, hD9⟩, hS.F ht⟩) hS.2.2 dX3_takeFee_43
