set_option maxHeartbeats 4000000 in
set_option maxRecDepth 100000 in
theorem lp_s_ba_in {p : Program} {l : Launch} {e : Env} {s : State} {m : MethodId} {args : Array Value} {below : List Frame} {meth : Method} {c : Code} {Q : State → Prop} {A : Nat → Prop} {D : va_G} (F : mFix p s m args c cX6_bearsAlso 8 RX6) (hA : ∀ q, s.heap.size ≤ q → A q) (h0 : Nat) (w : Nat) (h : Nat) (q1 : Nat) (q2 : Nat) (q3 : Nat) (q4 : Nat) (q5 : Nat) (q6 : Nat) (cy1 : ClassId) (f1 : Nat → Int32) (cy3 : ClassId) (f3 : Nat → Int32) (i : Nat) (j : Nat) (wt : Int32) (b : Int32) (dy : Int32) (t : Nat) (hK : va_K D vwCl [(cy1, .int), (cy3, .int)] s)
    (kx_75 : (¬ (∀ c m, c % 10 < w → c / 10 < h → m < 9 → c % 10 + 1 = i + m % 3 → c / 10 + 1 = j + m / 3 → ¬ brI f1 b c < f3 c + wt * nI (shm m))) → ∀ (H : Heap) (locs : List Loc), va_P D vwCl [(h0, Sum.inr (5, [Value.int (nI w), Value.int (nI h), Value.ref q1, Value.ref q2, Value.ref q3, Value.ref q4, Value.ref q5, Value.ref q6])), (q1, Sum.inl (cy1, 100, Sum.inl f1)), (q3, Sum.inl (cy3, 100, Sum.inl f3))] H → va_D A [(h0, Sum.inr (5, [Value.int (nI w), Value.int (nI h), Value.ref q1, Value.ref q2, Value.ref q3, Value.ref q4, Value.ref q5, Value.ref q6])), (q1, Sum.inl (cy1, 100, Sum.inl f1)), (q3, Sum.inl (cy3, 100, Sum.inl f3))] → va_S A s.heap H locs → ∀ ls : Array Slot, lv_has ls 8 [] → W p l e ({ frames := 1, cells := 0, slots := 0, locals := 22 }) s m args below meth c H locs 0 0 Q (F0 m 75 ls []))
    (kx_83 : (∀ c m, c % 10 < w → c / 10 < h → m < 3 * t + 3 → c % 10 + 1 = i + m % 3 → c / 10 + 1 = j + m / 3 → ¬ brI f1 b c < f3 c + wt * nI (shm m)) → ∀ (H : Heap) (locs : List Loc), va_P D vwCl [(h0, Sum.inr (5, [Value.int (nI w), Value.int (nI h), Value.ref q1, Value.ref q2, Value.ref q3, Value.ref q4, Value.ref q5, Value.ref q6])), (q1, Sum.inl (cy1, 100, Sum.inl f1)), (q3, Sum.inl (cy3, 100, Sum.inl f3))] H → va_D A [(h0, Sum.inr (5, [Value.int (nI w), Value.int (nI h), Value.ref q1, Value.ref q2, Value.ref q3, Value.ref q4, Value.ref q5, Value.ref q6])), (q1, Sum.inl (cy1, 100, Sum.inl f1)), (q3, Sum.inl (cy3, 100, Sum.inl f3))] → va_S A s.heap H locs → ∀ ls : Array Slot, lv_has ls 8 [(0, Value.ref h0), (1, Value.int (nI i)), (2, Value.int (nI j)), (3, Value.int wt), (4, Value.int b), (5, Value.int dy)] → W p l e ({ frames := 1, cells := 0, slots := 0, locals := 22 }) s m args below meth c H locs 0 0 Q (F0 m 83 ls [])) :
    ∀ n : Nat, ∀ (dx : Int32) (u : Nat), (w ≤ 10) → (h ≤ 10) → (i < w) → (j < h) → (dy.toInt = (t : Int) - 1) → (t < 3) → (dx.toInt = (u : Int) - 1) → (u ≤ 3) → (∀ c m, c % 10 < w → c / 10 < h → m < 3 * t + u → c % 10 + 1 = i + m % 3 → c / 10 + 1 = j + m / 3 → ¬ brI f1 b c < f3 c + wt * nI (shm m)) → (3 - u) < n → ∀ (H : Heap) (locs : List Loc), va_P D vwCl [(h0, Sum.inr (5, [Value.int (nI w), Value.int (nI h), Value.ref q1, Value.ref q2, Value.ref q3, Value.ref q4, Value.ref q5, Value.ref q6])), (q1, Sum.inl (cy1, 100, Sum.inl f1)), (q3, Sum.inl (cy3, 100, Sum.inl f3))] H → va_D A [(h0, Sum.inr (5, [Value.int (nI w), Value.int (nI h), Value.ref q1, Value.ref q2, Value.ref q3, Value.ref q4, Value.ref q5, Value.ref q6])), (q1, Sum.inl (cy1, 100, Sum.inl f1)), (q3, Sum.inl (cy3, 100, Sum.inl f3))] → va_S A s.heap H locs → ∀ ls : Array Slot, lv_has ls 8 [(0, Value.ref h0), (1, Value.int (nI i)), (2, Value.int (nI j)), (3, Value.int wt), (4, Value.int b), (5, Value.int dy), (6, Value.int dx)] → W p l e ({ frames := 1, cells := 0, slots := 0, locals := 22 }) s m args below meth c H locs 0 0 Q (F0 m 12 ls []) := by
  intro n
  induction n with
  | zero => intro dx u h3 h4 hi hj hdy ht hdx hu hba hn; exact absurd hn (Nat.not_lt_zero _)
  | succ n ih =>
    intro dx u h3 h4 hi hj hdy ht hdx hu hba hn H locs hP hD hS ls hl
    obtain ⟨hx, hb, hml, hown, hts⟩ := id F
    refine lv_iload hx hb dX6_bearsAlso_12 (lv_at hl 6 rfl) ?_
    refine lv_iconst (v := 1) hx hb dX6_bearsAlso_14 (by decide) ?_
    refine lv_icmp_gt (tgt := 83) hx hb dX6_bearsAlso_15 (by decide) (fun c_1 => ?_) (fun c_1 => ?_)
    · skip
      have c_1z : (1 : Int) < dx.toInt := z_lt (by decide) rfl c_1
      exact kx_83  ((show u = 3 by omega) ▸ hba) H locs (hP.sub [0, 1, 2] rfl) (hD.sub [0, 1, 2] (by decide) rfl) hS ls (lv_sub hl [0, 1, 2, 3, 4, 5] rfl)
    · skip
      have c_1z : dx.toInt ≤ (1 : Int) := z_nlt (by decide) rfl c_1
      refine lv_aload_n hx hb dX6_bearsAlso_18 rfl (lv_at hl 0 rfl) ?_
      refine lv_iload_n hx hb dX6_bearsAlso_19 rfl (lv_at hl 1 rfl) ?_
      refine lv_iload hx hb dX6_bearsAlso_20 (lv_at hl 6 rfl) ?_
      refine lv_iadd hx hb dX6_bearsAlso_22 ?_
      refine lv_topi (fun z_2 ez_2 => ?_)
      have hZz_2 : z_2.toInt = ((i : Nat) : Int) + dx.toInt := by rw [ez_2]; exact z_add (nI_toInt (by omega)) rfl (by omega) (by omega)
      refine lv_iload_n hx hb dX6_bearsAlso_23 rfl (lv_at hl 2 rfl) ?_
      refine lv_iload hx hb dX6_bearsAlso_24 (lv_at hl 5 rfl) ?_
      refine lv_iadd hx hb dX6_bearsAlso_26 ?_
      refine lv_topi (fun z_3 ez_3 => ?_)
      have hZz_3 : z_3.toInt = ((j : Nat) : Int) + dy.toInt := by rw [ez_3]; exact z_add (nI_toInt (by omega)) rfl (by omega) (by omega)
      refine mc_Vi (rest := []) (wr := [(q1, Sum.inl (cy1, 100, Sum.inl f1)), (q3, Sum.inl (cy3, 100, Sum.inl f3))]) F hK hP hD hS hA (c_has_any l D h0 q1 q2 q3 q4 q5 q6 w h z_2 z_3 (by omega) (by omega)) ⟨gk_X6_42.1, gk_X6_42.2, Nat.le_of_ble_eq_true rfl, Nat.le_of_ble_eq_true rfl⟩ [0] [1, 2] [] ⟨rfl, rfl, rfl, rfl, by decide⟩ rfl xT_move (fun _ _ _ => trivial) 0 rfl rfl rfl hl.1 rfl (Nat.le_of_ble_eq_true rfl) dX6_bearsAlso_27 ⟨Nat.le_of_ble_eq_true rfl, Nat.le_of_ble_eq_true rfl⟩ (fun r_4 _ H locs hw hK1 hP hD hS => ?_)
      have hP : va_P D vwCl [(q1, Sum.inl (cy1, 100, Sum.inl f1)), (q3, Sum.inl (cy3, 100, Sum.inl f3)), (h0, Sum.inr (5, [Value.int (nI w), Value.int (nI h), Value.ref q1, Value.ref q2, Value.ref q3, Value.ref q4, Value.ref q5, Value.ref q6]))] H := hP
      have hD : va_D A [(q1, Sum.inl (cy1, 100, Sum.inl f1)), (q3, Sum.inl (cy3, 100, Sum.inl f3)), (h0, Sum.inr (5, [Value.int (nI w), Value.int (nI h), Value.ref q1, Value.ref q2, Value.ref q3, Value.ref q4, Value.ref q5, Value.ref q6]))] := hD
      have hw_5 : r_4 = (if (z_2 < 0 ∨ ¬ z_2 < nI w ∨ z_3 < 0 ∨ ¬ z_3 < nI h) then 0 else 1) := hw
      by_cases ho_6 : (z_2 < 0 ∨ ¬ z_2 < nI w ∨ z_3 < 0 ∨ ¬ z_3 < nI h)
      · skip
        obtain rfl : r_4 = 0 := by rw [hw_5, if_pos ho_6]
        have hzo := out_z (by omega) (by omega) ho_6
        refine lv_if_eq (tgt := 77) hx hb dX6_bearsAlso_30 (by decide) (fun c_7 => ?_) (fun c_7 => absurd c_7 (by decide))
        obtain ⟨z_8, ez_8⟩ : ∃ y : Int32, y = dx + 1 := ⟨_, rfl⟩
        have hZz_8 : z_8.toInt = dx.toInt + (1 : Int) := by rw [ez_8]; exact z_add rfl (by decide) (by omega) (by omega)
        refine lv_iinc (v := z_8) (lv' := [(6, Value.int z_8), (0, Value.ref h0), (1, Value.int (nI i)), (2, Value.int (nI j)), (3, Value.int wt), (4, Value.int b), (5, Value.int dy)]) hx hb dX6_bearsAlso_77 hl (k := 6) rfl (by rw [ez_8]; rfl) (by decide) rfl (fun ls hl => ?_)
        refine lv_goto (tgt := 12) hx hb dX6_bearsAlso_80 (by decide) ?_
        exact ih z_8 (u + 1) (by omega) (by omega) (by omega) (by omega) hdy (by omega) (by omega) (by omega) (fun c m q1 q2 q3 q4 q5 => by by_cases q6 : m < 3 * t + u; exact hba c m q1 q2 q6 q4 q5; exfalso; omega) (by omega) H locs (hP.sub [2, 0, 1] rfl) (hD.sub [2, 0, 1] (by decide) rfl) hS ls (lv_sub hl [1, 2, 3, 4, 5, 6, 0] rfl)
      · skip
        obtain rfl : r_4 = 1 := by rw [hw_5, if_neg ho_6]
        obtain ⟨i_9, hi_9, ei_9⟩ : ∃ j : Nat, j < w ∧ z_2 = nI j := n_lt (fun q => ho_6 (Or.inl q)) (fun q => ho_6 (Or.inr (Or.inl (Int32.not_lt.mpr q)))) (by omega)
        obtain ⟨j_10, hj_10, ej_10⟩ : ∃ j : Nat, j < h ∧ z_3 = nI j := n_lt (fun q => ho_6 (Or.inr (Or.inr (Or.inl q)))) (fun q => ho_6 (Or.inr (Or.inr (Or.inr (Int32.not_lt.mpr q))))) (by omega)
        have hzi_9 := in_z ei_9 (by omega)
        have hzj_10 := in_z ej_10 (by omega)
        subst ei_9
        subst ej_10
        have hcl : cl (nI i_9) (nI j_10) = j_10 * 10 + i_9 := cl_nI (by omega) (by omega)
        have hl : lv_has ls 8 [(0, Value.ref h0), (1, Value.int (nI i)), (2, Value.int (nI j)), (3, Value.int wt), (4, Value.int b), (5, Value.int dy), (6, Value.int dx)] := hl
        refine lv_if_eq (tgt := 77) hx hb dX6_bearsAlso_30 (by decide) (fun c_11 => absurd c_11 (by decide)) (fun c_11 => ?_)
        refine lv_aload_n hx hb dX6_bearsAlso_33 rfl (lv_at hl 0 rfl) ?_
        refine lv_iload_n hx hb dX6_bearsAlso_34 rfl (lv_at hl 1 rfl) ?_
        refine lv_iload hx hb dX6_bearsAlso_35 (lv_at hl 6 rfl) ?_
        refine lv_iadd hx hb dX6_bearsAlso_37 ?_
        refine lv_topi (fun z_12 ez_12 => ?_)
        obtain rfl : z_12 = nI i_9 := ez_12.trans ez_2.symm
        refine lv_iload_n hx hb dX6_bearsAlso_38 rfl (lv_at hl 2 rfl) ?_
        refine lv_iload hx hb dX6_bearsAlso_39 (lv_at hl 5 rfl) ?_
        refine lv_iadd hx hb dX6_bearsAlso_41 ?_
        refine lv_topi (fun z_13 ez_13 => ?_)
        obtain rfl : z_13 = nI j_10 := ez_13.trans ez_3.symm
        refine mc_Vi (rest := []) (wr := [(q1, Sum.inl (cy1, 100, Sum.inl f1)), (q3, Sum.inl (cy3, 100, Sum.inl f3))]) F hK hP hD hS hA (c_spotOf l D h0 q1 q2 q3 q4 q5 q6 w h i_9 j_10 ) ⟨gk_X6_46.1, gk_X6_46.2, Nat.le_of_ble_eq_true rfl, Nat.le_of_ble_eq_true rfl⟩ [2] [0, 1] [] ⟨rfl, rfl, rfl, rfl, by decide⟩ rfl xT_move (fun _ _ _ => trivial) 2 rfl rfl rfl hl.1 rfl (Nat.le_of_ble_eq_true rfl) dX6_bearsAlso_42 ⟨Nat.le_of_ble_eq_true rfl, Nat.le_of_ble_eq_true rfl⟩ (fun r_14 _ H locs hw hK1 hP hD hS => ?_)
        have hP : va_P D vwCl [(q1, Sum.inl (cy1, 100, Sum.inl f1)), (q3, Sum.inl (cy3, 100, Sum.inl f3)), (h0, Sum.inr (5, [Value.int (nI w), Value.int (nI h), Value.ref q1, Value.ref q2, Value.ref q3, Value.ref q4, Value.ref q5, Value.ref q6]))] H := hP
        have hD : va_D A [(q1, Sum.inl (cy1, 100, Sum.inl f1)), (q3, Sum.inl (cy3, 100, Sum.inl f3)), (h0, Sum.inr (5, [Value.int (nI w), Value.int (nI h), Value.ref q1, Value.ref q2, Value.ref q3, Value.ref q4, Value.ref q5, Value.ref q6]))] := hD
        have hw_15 : r_14 = nI (j_10 * 10 + i_9) := hw
        obtain rfl : r_14 = nI (j_10 * 10 + i_9) := hw_15
        refine lv_istore (lv' := [(7, Value.int (nI (j_10 * 10 + i_9))), (0, Value.ref h0), (1, Value.int (nI i)), (2, Value.int (nI j)), (3, Value.int wt), (4, Value.int b), (5, Value.int dy), (6, Value.int dx)]) hx hb dX6_bearsAlso_45 hl (by decide) rfl (fun ls hl => ?_)
        refine lv_aload_n hx hb dX6_bearsAlso_47 rfl (lv_at hl 1 rfl) ?_
        refine va_get (D := D) (ci := 5) (v := Value.ref q3) (C := RX6) (T := TX6) (N := 8) hx hb hts inG_X6 hown hK hP 2 rfl rfl 4 (by decide) (hts _ kw_1_152) (fun _ h9 => h9) rfl dX6_bearsAlso_48 ?_
        refine lv_iload hx hb dX6_bearsAlso_51 (lv_at hl 0 rfl) ?_
        refine m_iald hx hb hK hP 1 1 rfl rfl (j_10 * 10 + i_9) rfl (by omega) (by decide) dX6_bearsAlso_53 ?_
        refine lv_topi (fun v_16 ev_16 => ?_)
        refine lv_iload_n hx hb dX6_bearsAlso_54 rfl (lv_at hl 4 rfl) ?_
        refine lv_iload hx hb dX6_bearsAlso_55 (lv_at hl 7 rfl) ?_
        refine lv_iload hx hb dX6_bearsAlso_57 (lv_at hl 6 rfl) ?_
        refine mc_Si (rest := [Value.int wt, Value.int v_16]) (wr := [(q1, Sum.inl (cy1, 100, Sum.inl f1)), (q3, Sum.inl (cy3, 100, Sum.inl f3)), (h0, Sum.inr (5, [Value.int (nI w), Value.int (nI h), Value.ref q1, Value.ref q2, Value.ref q3, Value.ref q4, Value.ref q5, Value.ref q6]))]) F hK hP hD hS hA (s_share l D dx dy ) ⟨gk_X6_69.1, gk_X6_69.2, Nat.le_of_ble_eq_true rfl, Nat.le_of_ble_eq_true rfl⟩ [] [0, 1, 2] [] ⟨rfl, rfl, rfl, rfl, by decide⟩ rfl xT_move (fun _ _ _ => trivial) rfl hl.1 rfl (Nat.le_of_ble_eq_true rfl) dX6_bearsAlso_59 ⟨Nat.le_of_ble_eq_true rfl, Nat.le_of_ble_eq_true rfl⟩ (fun r_17 _ H locs hw hK1 hP hD hS => ?_)
        have hP : va_P D vwCl [(q1, Sum.inl (cy1, 100, Sum.inl f1)), (q3, Sum.inl (cy3, 100, Sum.inl f3)), (h0, Sum.inr (5, [Value.int (nI w), Value.int (nI h), Value.ref q1, Value.ref q2, Value.ref q3, Value.ref q4, Value.ref q5, Value.ref q6]))] H := hP
        have hD : va_D A [(q1, Sum.inl (cy1, 100, Sum.inl f1)), (q3, Sum.inl (cy3, 100, Sum.inl f3)), (h0, Sum.inr (5, [Value.int (nI w), Value.int (nI h), Value.ref q1, Value.ref q2, Value.ref q3, Value.ref q4, Value.ref q5, Value.ref q6]))] := hD
        have hw_18 : r_17 = (if dx = 0 then (2 : Int32) else 1) * (if dy = 0 then 2 else 1) := hw
        refine lv_imul hx hb dX6_bearsAlso_62 ?_
        refine lv_topi (fun z_19 ez_19 => ?_)
        refine lv_iadd hx hb dX6_bearsAlso_63 ?_
        refine lv_topi (fun z_20 ez_20 => ?_)
        refine lv_aload_n hx hb dX6_bearsAlso_64 rfl (lv_at hl 1 rfl) ?_
        refine lv_iload hx hb dX6_bearsAlso_65 (lv_at hl 0 rfl) ?_
        refine lv_iload hx hb dX6_bearsAlso_67 (lv_at hl 5 rfl) ?_
        refine mc_Vi (rest := [Value.int z_20]) (wr := [(q3, Sum.inl (cy3, 100, Sum.inl f3))]) F hK hP hD hS hA (c_bearing l D h0 q1 q2 q3 q4 q5 q6 cy1 f1 w h (j_10 * 10 + i_9) b (by omega)) ⟨gk_X6_72.1, gk_X6_72.2, Nat.le_of_ble_eq_true rfl, Nat.le_of_ble_eq_true rfl⟩ [2, 0] [1] [0] ⟨rfl, rfl, rfl, rfl, by decide⟩ rfl xT_move (fun _ _ _ => trivial) 2 rfl rfl rfl hl.1 rfl (Nat.le_of_ble_eq_true rfl) dX6_bearsAlso_69 ⟨Nat.le_of_ble_eq_true rfl, Nat.le_of_ble_eq_true rfl⟩ (fun r_21 _ H locs hw hK1 hP hD hS => ?_)
        have hP : va_P D vwCl [(q3, Sum.inl (cy3, 100, Sum.inl f3)), (h0, Sum.inr (5, [Value.int (nI w), Value.int (nI h), Value.ref q1, Value.ref q2, Value.ref q3, Value.ref q4, Value.ref q5, Value.ref q6])), (q1, Sum.inl (cy1, 100, Sum.inl f1))] H := hP
        have hD : va_D A [(q3, Sum.inl (cy3, 100, Sum.inl f3)), (h0, Sum.inr (5, [Value.int (nI w), Value.int (nI h), Value.ref q1, Value.ref q2, Value.ref q3, Value.ref q4, Value.ref q5, Value.ref q6])), (q1, Sum.inl (cy1, 100, Sum.inl f1))] := hD
        have hw_22 : r_21 = f1 (j_10 * 10 + i_9) * f1 (j_10 * 10 + i_9) * b / 100 := hw
        refine lv_icmp_le (tgt := 77) hx hb dX6_bearsAlso_72 (by decide) (fun c_23 => ?_) (fun c_23 => ?_)
        · skip
          have c_23 := Int32.not_lt.mpr c_23
          have hle9 : ¬ brI f1 b (j_10 * 10 + i_9) < f3 (j_10 * 10 + i_9) + wt * nI (shm (3 * t + u)) := by rw [← sh_val hdx hdy (by omega) ht, ← hw_18, ← ez_19, ← ev_16, ← ez_20]; show ¬ f1 _ * f1 _ * b / 100 < _; rw [← hw_22]; exact c_23
          obtain ⟨z_24, ez_24⟩ : ∃ y : Int32, y = dx + 1 := ⟨_, rfl⟩
          have hZz_24 : z_24.toInt = dx.toInt + (1 : Int) := by rw [ez_24]; exact z_add rfl (by decide) (by omega) (by omega)
          refine lv_iinc (v := z_24) (lv' := [(6, Value.int z_24), (7, Value.int (nI (j_10 * 10 + i_9))), (0, Value.ref h0), (1, Value.int (nI i)), (2, Value.int (nI j)), (3, Value.int wt), (4, Value.int b), (5, Value.int dy)]) hx hb dX6_bearsAlso_77 hl (k := 7) rfl (by rw [ez_24]; rfl) (by decide) rfl (fun ls hl => ?_)
          refine lv_goto (tgt := 12) hx hb dX6_bearsAlso_80 (by decide) ?_
          exact ih z_24 (u + 1) (by omega) (by omega) (by omega) (by omega) hdy (by omega) (by omega) (by omega) (fun c m q1 q2 q3 q4 q5 => by by_cases q6 : m < 3 * t + u; exact hba c m q1 q2 q6 q4 q5; obtain rfl : c = j_10 * 10 + i_9 := (by omega); obtain rfl : m = 3 * t + u := (by omega); exact hle9) (by omega) H locs (hP.sub [1, 2, 0] rfl) (hD.sub [1, 2, 0] (by decide) rfl) hS ls (lv_sub hl [2, 3, 4, 5, 6, 7, 0] rfl)
        · skip
          have c_23 := Int32.not_le.mp c_23
          have hlt9 : brI f1 b (j_10 * 10 + i_9) < f3 (j_10 * 10 + i_9) + wt * nI (shm (3 * t + u)) := by rw [← sh_val hdx hdy (by omega) ht, ← hw_18, ← ez_19, ← ev_16, ← ez_20]; show f1 _ * f1 _ * b / 100 < _; rw [← hw_22]; exact c_23
          exact kx_75  (fun q => q (j_10 * 10 + i_9) (3 * t + u) (by omega) (by omega) (by omega) (by omega) (by omega) hlt9) H locs (hP.sub [1, 2, 0] rfl) (hD.sub [1, 2, 0] (by decide) rfl) hS ls (lv_sub hl [] rfl)
set_option maxHeartbeats 4000000 in
set_option maxRecDepth 100000 in
theorem lp_s_ba_out {p : Program} {l : Launch} {e : Env} {s : State} {m : MethodId} {args : Array Value} {below : List Frame} {meth : Method} {c : Code} {Q : State → Prop} {A : Nat → Prop} {D : va_G} (F : mFix p s m args c cX6_bearsAlso 8 RX6) (hA : ∀ q, s.heap.size ≤ q → A q) (h0 : Nat) (w : Nat) (h : Nat) (q1 : Nat) (q2 : Nat) (q3 : Nat) (q4 : Nat) (q5 : Nat) (q6 : Nat) (cy1 : ClassId) (f1 : Nat → Int32) (cy3 : ClassId) (f3 : Nat → Int32) (i : Nat) (j : Nat) (wt : Int32) (b : Int32) (hK : va_K D vwCl [(cy1, .int), (cy3, .int)] s)
    (kx_75 : (¬ (∀ c m, c % 10 < w → c / 10 < h → m < 9 → c % 10 + 1 = i + m % 3 → c / 10 + 1 = j + m / 3 → ¬ brI f1 b c < f3 c + wt * nI (shm m))) → ∀ (H : Heap) (locs : List Loc), va_P D vwCl [(h0, Sum.inr (5, [Value.int (nI w), Value.int (nI h), Value.ref q1, Value.ref q2, Value.ref q3, Value.ref q4, Value.ref q5, Value.ref q6])), (q1, Sum.inl (cy1, 100, Sum.inl f1)), (q3, Sum.inl (cy3, 100, Sum.inl f3))] H → va_D A [(h0, Sum.inr (5, [Value.int (nI w), Value.int (nI h), Value.ref q1, Value.ref q2, Value.ref q3, Value.ref q4, Value.ref q5, Value.ref q6])), (q1, Sum.inl (cy1, 100, Sum.inl f1)), (q3, Sum.inl (cy3, 100, Sum.inl f3))] → va_S A s.heap H locs → ∀ ls : Array Slot, lv_has ls 8 [] → W p l e ({ frames := 1, cells := 0, slots := 0, locals := 22 }) s m args below meth c H locs 0 0 Q (F0 m 75 ls []))
    (kx_89 : (∀ c m, c % 10 < w → c / 10 < h → m < 9 → c % 10 + 1 = i + m % 3 → c / 10 + 1 = j + m / 3 → ¬ brI f1 b c < f3 c + wt * nI (shm m)) → ∀ (H : Heap) (locs : List Loc), va_P D vwCl [(h0, Sum.inr (5, [Value.int (nI w), Value.int (nI h), Value.ref q1, Value.ref q2, Value.ref q3, Value.ref q4, Value.ref q5, Value.ref q6])), (q1, Sum.inl (cy1, 100, Sum.inl f1)), (q3, Sum.inl (cy3, 100, Sum.inl f3))] H → va_D A [(h0, Sum.inr (5, [Value.int (nI w), Value.int (nI h), Value.ref q1, Value.ref q2, Value.ref q3, Value.ref q4, Value.ref q5, Value.ref q6])), (q1, Sum.inl (cy1, 100, Sum.inl f1)), (q3, Sum.inl (cy3, 100, Sum.inl f3))] → va_S A s.heap H locs → ∀ ls : Array Slot, lv_has ls 8 [] → W p l e ({ frames := 1, cells := 0, slots := 0, locals := 22 }) s m args below meth c H locs 0 0 Q (F0 m 89 ls [])) :
    ∀ n : Nat, ∀ (dy : Int32) (t : Nat), (w ≤ 10) → (h ≤ 10) → (i < w) → (j < h) → (dy.toInt = (t : Int) - 1) → (t ≤ 3) → (∀ c m, c % 10 < w → c / 10 < h → m < 3 * t → c % 10 + 1 = i + m % 3 → c / 10 + 1 = j + m / 3 → ¬ brI f1 b c < f3 c + wt * nI (shm m)) → (3 - t) < n → ∀ (H : Heap) (locs : List Loc), va_P D vwCl [(h0, Sum.inr (5, [Value.int (nI w), Value.int (nI h), Value.ref q1, Value.ref q2, Value.ref q3, Value.ref q4, Value.ref q5, Value.ref q6])), (q1, Sum.inl (cy1, 100, Sum.inl f1)), (q3, Sum.inl (cy3, 100, Sum.inl f3))] H → va_D A [(h0, Sum.inr (5, [Value.int (nI w), Value.int (nI h), Value.ref q1, Value.ref q2, Value.ref q3, Value.ref q4, Value.ref q5, Value.ref q6])), (q1, Sum.inl (cy1, 100, Sum.inl f1)), (q3, Sum.inl (cy3, 100, Sum.inl f3))] → va_S A s.heap H locs → ∀ ls : Array Slot, lv_has ls 8 [(0, Value.ref h0), (1, Value.int (nI i)), (2, Value.int (nI j)), (3, Value.int wt), (4, Value.int b), (5, Value.int dy)] → W p l e ({ frames := 1, cells := 0, slots := 0, locals := 22 }) s m args below meth c H locs 0 0 Q (F0 m 3 ls []) := by
  intro n
  induction n with
  | zero => intro dy t h3 h4 hi hj hdy ht hba hn; exact absurd hn (Nat.not_lt_zero _)
  | succ n ih =>
    intro dy t h3 h4 hi hj hdy ht hba hn H locs hP hD hS ls hl
    obtain ⟨hx, hb, hml, hown, hts⟩ := id F
    refine lv_iload hx hb dX6_bearsAlso_3 (lv_at hl 5 rfl) ?_
    refine lv_iconst (v := 1) hx hb dX6_bearsAlso_5 (by decide) ?_
    refine lv_icmp_gt (tgt := 89) hx hb dX6_bearsAlso_6 (by decide) (fun c_1 => ?_) (fun c_1 => ?_)
    · skip
      have c_1z : (1 : Int) < dy.toInt := z_lt (by decide) rfl c_1
      exact kx_89  (by have q : t = 3 := (by omega); rw [q] at hba; exact hba) H locs (hP.sub [0, 1, 2] rfl) (hD.sub [0, 1, 2] (by decide) rfl) hS ls (lv_sub hl [] rfl)
    · skip
      have c_1z : dy.toInt ≤ (1 : Int) := z_nlt (by decide) rfl c_1
      refine lv_iconst (v := -1) hx hb dX6_bearsAlso_9 (by decide) ?_
      refine lv_istore (lv' := [(6, Value.int ((-1))), (0, Value.ref h0), (1, Value.int (nI i)), (2, Value.int (nI j)), (3, Value.int wt), (4, Value.int b), (5, Value.int dy)]) hx hb dX6_bearsAlso_10 hl (by decide) rfl (fun ls hl => ?_)
      refine lp_s_ba_in F hA h0 w h q1 q2 q3 q4 q5 q6 cy1 f1 cy3 f3 i j wt b dy t (hK.sub [0, 1] rfl) (fun  h_2 H locs hP hD hS ls hl => ?_) (fun  h_3 H locs hP hD hS ls hl => ?_) _ ((-1)) 0 (by omega) (by omega) (by omega) (by omega) hdy (by omega) (by decide) (by omega) hba (Nat.lt_succ_self _) _ _ (hP.sub [0, 1, 2] rfl) (hD.sub [0, 1, 2] (by decide) rfl) hS ls (lv_sub hl [1, 2, 3, 4, 5, 6, 0] rfl)
      · skip
        have h_2 : ¬ (∀ c m, c % 10 < w → c / 10 < h → m < 9 → c % 10 + 1 = i + m % 3 → c / 10 + 1 = j + m / 3 → ¬ brI f1 b c < f3 c + wt * nI (shm m)) := h_2
        exact kx_75  h_2 H locs (hP.sub [0, 1, 2] rfl) (hD.sub [0, 1, 2] (by decide) rfl) hS ls (lv_sub hl [] rfl)
      · skip
        have h_3 : ∀ c m, c % 10 < w → c / 10 < h → m < 3 * t + 3 → c % 10 + 1 = i + m % 3 → c / 10 + 1 = j + m / 3 → ¬ brI f1 b c < f3 c + wt * nI (shm m) := h_3
        obtain ⟨z_4, ez_4⟩ : ∃ y : Int32, y = dy + 1 := ⟨_, rfl⟩
        have hZz_4 : z_4.toInt = dy.toInt + (1 : Int) := by rw [ez_4]; exact z_add rfl (by decide) (by omega) (by omega)
        refine lv_iinc (v := z_4) (lv' := [(5, Value.int z_4), (0, Value.ref h0), (1, Value.int (nI i)), (2, Value.int (nI j)), (3, Value.int wt), (4, Value.int b)]) hx hb dX6_bearsAlso_83 hl (k := 5) rfl (by rw [ez_4]; rfl) (by decide) rfl (fun ls hl => ?_)
        refine lv_goto (tgt := 3) hx hb dX6_bearsAlso_86 (by decide) ?_
        exact ih z_4 (t + 1) (by omega) (by omega) (by omega) (by omega) (by omega) (by omega) h_3 (by omega) H locs (hP.sub [0, 1, 2] rfl) (hD.sub [0, 1, 2] (by decide) rfl) hS ls (lv_sub hl [1, 2, 3, 4, 5, 0] rfl)
set_option maxHeartbeats 4000000 in
set_option maxRecDepth 100000 in
theorem s_bearsAlso (l : Launch) (D : va_G) (h0 : Nat) (w : Nat) (h : Nat) (q1 : Nat) (q2 : Nat) (q3 : Nat) (q4 : Nat) (q5 : Nat) (q6 : Nat) (cy1 : ClassId) (f1 : Nat → Int32) (cy3 : ClassId) (f3 : Nat → Int32) (i : Nat) (j : Nat) (wt : Int32) (b : Int32) (h3 : w ≤ 10) (h4 : h ≤ 10) (hi : i < w) (hj : j < h) : cI l yX6_bearsAlso (.code yX6_bearsAlso cX6_bearsAlso 8 (some .boolean)) ({ frames := 1, cells := 0, slots := 0, locals := 22 }) D [(cy1, .int), (cy3, .int)] [(h0, Sum.inr (5, [Value.int (nI w), Value.int (nI h), Value.ref q1, Value.ref q2, Value.ref q3, Value.ref q4, Value.ref q5, Value.ref q6])), (q1, Sum.inl (cy1, 100, Sum.inl f1)), (q3, Sum.inl (cy3, 100, Sum.inl f3))] xT [Value.ref h0, Value.int (nI i), Value.int (nI j), Value.int wt, Value.int b] (S := Unit) (fun r _ => (r = 1 ∧ alsoP w h f1 f3 wt b (j * 10 + i)) ∨ (r = 0 ∧ ¬ alsoP w h f1 f3 wt b (j * 10 + i))) (fun _ => []) (fun _ => [(h0, Sum.inr (5, [Value.int (nI w), Value.int (nI h), Value.ref q1, Value.ref q2, Value.ref q3, Value.ref q4, Value.ref q5, Value.ref q6])), (q1, Sum.inl (cy1, 100, Sum.inl f1)), (q3, Sum.inl (cy3, 100, Sum.inl f3))]) := by
  intro sz
  refine Met.ofW (cc := cX6_bearsAlso) (maxL := 8) (ret := (some .boolean)) (by decide) rfl ?_
  intro p e s m args below meth c s₁ B hml hv
  obtain ⟨rfl, hsz, hP, hK, hD0, hX⟩ := hv
  have hx := B.exec
  have hb := B.bytes
  have hr := B.returns
  have hts0 := atoms_spec (ws := .code yX6_bearsAlso cX6_bearsAlso 8 (some .boolean) :: gw) B.pre
  have hts := fun (w : Cond) (h : w ∈ gw) => hts0 w (List.mem_cons_of_mem _ h)
  have hown : s.vm.findClass RX6 = some m.cls := findClass_of_methodNamed B.named
  have hlocks := B.notSynchronized
  have F : mFix p s m _ c cX6_bearsAlso 8 RX6 := ⟨hx, hb, hml, hown, hts⟩
  subst hsz
  have hD := hD0.self (sz := s.heap.size)
  generalize hAe : va_A [(h0, Sum.inr (5, [Value.int (nI w), Value.int (nI h), Value.ref q1, Value.ref q2, Value.ref q3, Value.ref q4, Value.ref q5, Value.ref q6])), (q1, Sum.inl (cy1, 100, Sum.inl f1)), (q3, Sum.inl (cy3, 100, Sum.inl f3))] s.heap.size = A at hD hX ⊢
  have hA : ∀ q : Nat, s.heap.size ≤ q → A q := fun q h => by rw [← hAe]; exact Or.inr h
  have hS : va_S A s.heap s.heap [] := va_S.rf
  have hl := lv_entry ([Value.ref h0, Value.int (nI i), Value.int (nI j), Value.int wt, Value.int b]) (n := 8) (Nat.le_of_ble_eq_true rfl)
  rw [lg_entry_eq]
  generalize (lg_sl ([Value.ref h0, Value.int (nI i), Value.int (nI j), Value.int wt, Value.int b]) ++ List.replicate (8 - (lg_sl ([Value.ref h0, Value.int (nI i), Value.int (nI j), Value.int wt, Value.int b])).length) Slot.unset).toArray = ls at hl ⊢
  have hl : lv_has ls 8 [(0, Value.ref h0), (1, Value.int (nI i)), (2, Value.int (nI j)), (3, Value.int wt), (4, Value.int b)] := hl
  have hP : va_P D vwCl [(h0, Sum.inr (5, [Value.int (nI w), Value.int (nI h), Value.ref q1, Value.ref q2, Value.ref q3, Value.ref q4, Value.ref q5, Value.ref q6])), (q1, Sum.inl (cy1, 100, Sum.inl f1)), (q3, Sum.inl (cy3, 100, Sum.inl f3))] s.heap := hP
  refine lv_iconst (v := -1) hx hb dX6_bearsAlso_0 (by decide) ?_
  refine lv_istore (lv' := [(5, Value.int ((-1))), (0, Value.ref h0), (1, Value.int (nI i)), (2, Value.int (nI j)), (3, Value.int wt), (4, Value.int b)]) hx hb dX6_bearsAlso_1 hl (by decide) rfl (fun ls hl => ?_)
  refine lp_s_ba_out F hA h0 w h q1 q2 q3 q4 q5 q6 cy1 f1 cy3 f3 i j wt b (hK.sub [0, 1] rfl) (fun  h_1 H locs hP hD hS ls hl => ?_) (fun  h_2 H locs hP hD hS ls hl => ?_) _ ((-1)) 0 (by omega) (by omega) (by omega) (by omega) (by decide) (by omega) (fun c m _ _ q => absurd q (Nat.not_lt_zero m)) (Nat.lt_succ_self _) _ _ (hP.sub [0, 1, 2] rfl) (hD.sub [0, 1, 2] (by decide) rfl) hS ls (lv_sub hl [1, 2, 3, 4, 5, 0] rfl)
  · skip
    have h_1 : ¬ (∀ c m, c % 10 < w → c / 10 < h → m < 9 → c % 10 + 1 = i + m % 3 → c / 10 + 1 = j + m / 3 → ¬ brI f1 b c < f3 c + wt * nI (shm m)) := h_1
    refine lv_iconst (v := 0) hx hb dX6_bearsAlso_75 (by decide) ?_
    have hP9 := hP.sub (ws' := [(h0, Sum.inr (5, [Value.int (nI w), Value.int (nI h), Value.ref q1, Value.ref q2, Value.ref q3, Value.ref q4, Value.ref q5, Value.ref q6])), (q1, Sum.inl (cy1, 100, Sum.inl f1)), (q3, Sum.inl (cy3, 100, Sum.inl f3))]) [0, 1, 2] rfl
    have hD9 := hD.sub (ws' := [(h0, Sum.inr (5, [Value.int (nI w), Value.int (nI h), Value.ref q1, Value.ref q2, Value.ref q3, Value.ref q4, Value.ref q5, Value.ref q6])), (q1, Sum.inl (cy1, 100, Sum.inl f1)), (q3, Sum.inl (cy3, 100, Sum.inl f3))]) [0, 1, 2] (by decide) rfl
    have hK9 := hK.sub (tys' := []) [] rfl
    refine W.widen (k := 0) (n := 0) (by decide) (by decide) ?_
    exact W.zret (v := 0) hx hb hr rfl (fun t ht hW => ⟨⟨0, (), rfl, Or.inr ⟨rfl, fun q => h_1 ((ba_iff (by omega)).mpr ((also_iff (by omega)).mpr q))⟩, by rw [ht]; exact hP9, va_K.moved hW.alike hK9, hD9⟩, hS.F ht⟩) hS.2.2 dX6_bearsAlso_76
  · skip
    have h_2 : ∀ c m, c % 10 < w → c / 10 < h → m < 9 → c % 10 + 1 = i + m % 3 → c / 10 + 1 = j + m / 3 → ¬ brI f1 b c < f3 c + wt * nI (shm m) := h_2
    refine lv_iconst (v := 1) hx hb dX6_bearsAlso_89 (by decide) ?_
    have hP9 := hP.sub (ws' := [(h0, Sum.inr (5, [Value.int (nI w), Value.int (nI h), Value.ref q1, Value.ref q2, Value.ref q3, Value.ref q4, Value.ref q5, Value.ref q6])), (q1, Sum.inl (cy1, 100, Sum.inl f1)), (q3, Sum.inl (cy3, 100, Sum.inl f3))]) [0, 1, 2] rfl
    have hD9 := hD.sub (ws' := [(h0, Sum.inr (5, [Value.int (nI w), Value.int (nI h), Value.ref q1, Value.ref q2, Value.ref q3, Value.ref q4, Value.ref q5, Value.ref q6])), (q1, Sum.inl (cy1, 100, Sum.inl f1)), (q3, Sum.inl (cy3, 100, Sum.inl f3))]) [0, 1, 2] (by decide) rfl
    have hK9 := hK.sub (tys' := []) [] rfl
    refine W.widen (k := 0) (n := 0) (by decide) (by decide) ?_
    exact W.zret (v := 1) hx hb hr rfl (fun t ht hW => ⟨⟨1, (), rfl, Or.inl ⟨rfl, (also_iff (by omega)).mp ((ba_iff (by omega)).mp h_2)⟩, by rw [ht]; exact hP9, va_K.moved hW.alike hK9, hD9⟩, hS.F ht⟩) hS.2.2 dX6_bearsAlso_90
set_option maxHeartbeats 4000000 in
set_option maxRecDepth 100000 in
theorem lp_s_ball_in {p : Program} {l : Launch} {e : Env} {s : State} {m : MethodId} {args : Array Value} {below : List Frame} {meth : Method} {c : Code} {Q : State → Prop} {A : Nat → Prop} {D : va_G} (F : mFix p s m args c cX6_bearsAll 5 RX6) (hA : ∀ q, s.heap.size ≤ q → A q) (h0 : Nat) (w : Nat) (h : Nat) (q1 : Nat) (q2 : Nat) (q3 : Nat) (q4 : Nat) (q5 : Nat) (q6 : Nat) (cy1 : ClassId) (f1 : Nat → Int32) (cy3 : ClassId) (f3 : Nat → Int32) (b : Int32) (j : Nat) (hK : va_K D vwCl [(cy1, .int), (cy3, .int)] s)
    (kx_45 : (∃ c, c % 10 < w ∧ c / 10 < h ∧ brI f1 b c < f3 c) → ∀ (H : Heap) (locs : List Loc), va_P D vwCl [(h0, Sum.inr (5, [Value.int (nI w), Value.int (nI h), Value.ref q1, Value.ref q2, Value.ref q3, Value.ref q4, Value.ref q5, Value.ref q6])), (q1, Sum.inl (cy1, 100, Sum.inl f1)), (q3, Sum.inl (cy3, 100, Sum.inl f3))] H → va_D A [(h0, Sum.inr (5, [Value.int (nI w), Value.int (nI h), Value.ref q1, Value.ref q2, Value.ref q3, Value.ref q4, Value.ref q5, Value.ref q6])), (q1, Sum.inl (cy1, 100, Sum.inl f1)), (q3, Sum.inl (cy3, 100, Sum.inl f3))] → va_S A s.heap H locs → ∀ ls : Array Slot, lv_has ls 5 [] → W p l e ({ frames := 1, cells := 0, slots := 0, locals := 22 }) s m args below meth c H locs 0 0 Q (F0 m 45 ls []))
    (kx_53 : (∀ c, c % 10 < w → c / 10 < h → c / 10 < j + 1 → ¬ brI f1 b c < f3 c) → ∀ (H : Heap) (locs : List Loc), va_P D vwCl [(h0, Sum.inr (5, [Value.int (nI w), Value.int (nI h), Value.ref q1, Value.ref q2, Value.ref q3, Value.ref q4, Value.ref q5, Value.ref q6])), (q1, Sum.inl (cy1, 100, Sum.inl f1)), (q3, Sum.inl (cy3, 100, Sum.inl f3))] H → va_D A [(h0, Sum.inr (5, [Value.int (nI w), Value.int (nI h), Value.ref q1, Value.ref q2, Value.ref q3, Value.ref q4, Value.ref q5, Value.ref q6])), (q1, Sum.inl (cy1, 100, Sum.inl f1)), (q3, Sum.inl (cy3, 100, Sum.inl f3))] → va_S A s.heap H locs → ∀ ls : Array Slot, lv_has ls 5 [(0, Value.ref h0), (1, Value.int b), (2, Value.int (nI j))] → W p l e ({ frames := 1, cells := 0, slots := 0, locals := 22 }) s m args below meth c H locs 0 0 Q (F0 m 53 ls [])) :
    ∀ n : Nat, ∀ (i : Nat), (i ≤ w) → (j < h) → (w ≤ 10) → (h ≤ 10) → (∀ c, c % 10 < w → c / 10 < h → (c / 10 < j ∨ (c / 10 = j ∧ c % 10 < i)) → ¬ brI f1 b c < f3 c) → (w - i) < n → ∀ (H : Heap) (locs : List Loc), va_P D vwCl [(h0, Sum.inr (5, [Value.int (nI w), Value.int (nI h), Value.ref q1, Value.ref q2, Value.ref q3, Value.ref q4, Value.ref q5, Value.ref q6])), (q1, Sum.inl (cy1, 100, Sum.inl f1)), (q3, Sum.inl (cy3, 100, Sum.inl f3))] H → va_D A [(h0, Sum.inr (5, [Value.int (nI w), Value.int (nI h), Value.ref q1, Value.ref q2, Value.ref q3, Value.ref q4, Value.ref q5, Value.ref q6])), (q1, Sum.inl (cy1, 100, Sum.inl f1)), (q3, Sum.inl (cy3, 100, Sum.inl f3))] → va_S A s.heap H locs → ∀ ls : Array Slot, lv_has ls 5 [(0, Value.ref h0), (1, Value.int b), (2, Value.int (nI j)), (3, Value.int (nI i))] → W p l e ({ frames := 1, cells := 0, slots := 0, locals := 22 }) s m args below meth c H locs 0 0 Q (F0 m 12 ls []) := by
  intro n
  induction n with
  | zero => intro i b1 b2 h3 h4 hal hn; exact absurd hn (Nat.not_lt_zero _)
  | succ n ih =>
    intro i b1 b2 h3 h4 hal hn H locs hP hD hS ls hl
    obtain ⟨hx, hb, hml, hown, hts⟩ := id F
    refine lv_iload_n hx hb dX6_bearsAll_12 rfl (lv_at hl 3 rfl) ?_
    refine lv_aload_n hx hb dX6_bearsAll_13 rfl (lv_at hl 0 rfl) ?_
    refine va_get (D := D) (ci := 5) (v := Value.int (nI w)) (C := RX6) (T := TX6) (N := 8) hx hb hts inG_X6 hown hK hP 0 rfl rfl 0 (by decide) (hts _ kw_1_142) (fun _ h9 => h9) rfl dX6_bearsAll_14 ?_
    refine lv_icmp_ge (tgt := 53) hx hb dX6_bearsAll_17 (by decide) (fun c_1 => ?_) (fun c_1 => ?_)
    · skip
      have c_1n : w ≤ i := (nI_leI (by omega) (by omega)).mp c_1
      have c_1 := Int32.not_lt.mpr c_1
      exact kx_53  (fun c q1 q2 q3 => hal c q1 q2 (by omega)) H locs (hP.sub [0, 1, 2] rfl) (hD.sub [0, 1, 2] (by decide) rfl) hS ls (lv_sub hl [0, 1, 2] rfl)
    · skip
      have c_1n : i < w := nb_le (by omega) (by omega) c_1
      have c_1 := Int32.not_le.mp c_1
      refine lv_aload_n hx hb dX6_bearsAll_20 rfl (lv_at hl 0 rfl) ?_
      refine lv_iload_n hx hb dX6_bearsAll_21 rfl (lv_at hl 3 rfl) ?_
      refine lv_iload_n hx hb dX6_bearsAll_22 rfl (lv_at hl 2 rfl) ?_
      refine mc_Vi (rest := []) (wr := [(q1, Sum.inl (cy1, 100, Sum.inl f1)), (q3, Sum.inl (cy3, 100, Sum.inl f3))]) F hK hP hD hS hA (c_spotOf l D h0 q1 q2 q3 q4 q5 q6 w h i j ) ⟨gk_X6_46.1, gk_X6_46.2, Nat.le_of_ble_eq_true rfl, Nat.le_of_ble_eq_true rfl⟩ [0] [1, 2] [] ⟨rfl, rfl, rfl, rfl, by decide⟩ rfl xT_move (fun _ _ _ => trivial) 0 rfl rfl rfl hl.1 rfl (Nat.le_of_ble_eq_true rfl) dX6_bearsAll_23 ⟨Nat.le_of_ble_eq_true rfl, Nat.le_of_ble_eq_true rfl⟩ (fun r_2 _ H locs hw hK1 hP hD hS => ?_)
      have hP : va_P D vwCl [(q1, Sum.inl (cy1, 100, Sum.inl f1)), (q3, Sum.inl (cy3, 100, Sum.inl f3)), (h0, Sum.inr (5, [Value.int (nI w), Value.int (nI h), Value.ref q1, Value.ref q2, Value.ref q3, Value.ref q4, Value.ref q5, Value.ref q6]))] H := hP
      have hD : va_D A [(q1, Sum.inl (cy1, 100, Sum.inl f1)), (q3, Sum.inl (cy3, 100, Sum.inl f3)), (h0, Sum.inr (5, [Value.int (nI w), Value.int (nI h), Value.ref q1, Value.ref q2, Value.ref q3, Value.ref q4, Value.ref q5, Value.ref q6]))] := hD
      have hw_3 : r_2 = nI (j * 10 + i) := hw
      obtain rfl : r_2 = nI (j * 10 + i) := hw_3
      refine lv_istore (lv' := [(4, Value.int (nI (j * 10 + i))), (0, Value.ref h0), (1, Value.int b), (2, Value.int (nI j)), (3, Value.int (nI i))]) hx hb dX6_bearsAll_26 hl (by decide) rfl (fun ls hl => ?_)
      refine lv_aload_n hx hb dX6_bearsAll_28 rfl (lv_at hl 1 rfl) ?_
      refine va_get (D := D) (ci := 5) (v := Value.ref q3) (C := RX6) (T := TX6) (N := 8) hx hb hts inG_X6 hown hK hP 2 rfl rfl 4 (by decide) (hts _ kw_1_152) (fun _ h9 => h9) rfl dX6_bearsAll_29 ?_
      refine lv_iload hx hb dX6_bearsAll_32 (lv_at hl 0 rfl) ?_
      refine m_iald hx hb hK hP 1 1 rfl rfl (j * 10 + i) rfl (by omega) (by decide) dX6_bearsAll_34 ?_
      refine lv_topi (fun v_4 ev_4 => ?_)
      refine lv_aload_n hx hb dX6_bearsAll_35 rfl (lv_at hl 1 rfl) ?_
      refine lv_iload hx hb dX6_bearsAll_36 (lv_at hl 0 rfl) ?_
      refine lv_iload_n hx hb dX6_bearsAll_38 rfl (lv_at hl 2 rfl) ?_
      refine mc_Vi (rest := [Value.int v_4]) (wr := [(q3, Sum.inl (cy3, 100, Sum.inl f3))]) F hK hP hD hS hA (c_bearing l D h0 q1 q2 q3 q4 q5 q6 cy1 f1 w h (j * 10 + i) b (by omega)) ⟨gk_X6_72.1, gk_X6_72.2, Nat.le_of_ble_eq_true rfl, Nat.le_of_ble_eq_true rfl⟩ [2, 0] [1] [0] ⟨rfl, rfl, rfl, rfl, by decide⟩ rfl xT_move (fun _ _ _ => trivial) 2 rfl rfl rfl hl.1 rfl (Nat.le_of_ble_eq_true rfl) dX6_bearsAll_39 ⟨Nat.le_of_ble_eq_true rfl, Nat.le_of_ble_eq_true rfl⟩ (fun r_5 _ H locs hw hK1 hP hD hS => ?_)
      have hP : va_P D vwCl [(q3, Sum.inl (cy3, 100, Sum.inl f3)), (h0, Sum.inr (5, [Value.int (nI w), Value.int (nI h), Value.ref q1, Value.ref q2, Value.ref q3, Value.ref q4, Value.ref q5, Value.ref q6])), (q1, Sum.inl (cy1, 100, Sum.inl f1))] H := hP
      have hD : va_D A [(q3, Sum.inl (cy3, 100, Sum.inl f3)), (h0, Sum.inr (5, [Value.int (nI w), Value.int (nI h), Value.ref q1, Value.ref q2, Value.ref q3, Value.ref q4, Value.ref q5, Value.ref q6])), (q1, Sum.inl (cy1, 100, Sum.inl f1))] := hD
      have hw_6 : r_5 = f1 (j * 10 + i) * f1 (j * 10 + i) * b / 100 := hw
      refine lv_icmp_le (tgt := 47) hx hb dX6_bearsAll_42 (by decide) (fun c_7 => ?_) (fun c_7 => ?_)
      · skip
        have c_7 := Int32.not_lt.mpr c_7
        have hle9 : ¬ brI f1 b (j * 10 + i) < f3 (j * 10 + i) := by rw [← ev_4]; show ¬ f1 _ * f1 _ * b / 100 < _; rw [← hw_6]; exact c_7
        refine lv_iinc (v := nI (i + 1)) (lv' := [(3, Value.int (nI (i + 1))), (4, Value.int (nI (j * 10 + i))), (0, Value.ref h0), (1, Value.int b), (2, Value.int (nI j))]) hx hb dX6_bearsAll_47 hl (k := 4) rfl (nI_add i 1) (by decide) rfl (fun ls hl => ?_)
        refine lv_goto (tgt := 12) hx hb dX6_bearsAll_50 (by decide) ?_
        exact ih (i + 1) (by omega) (by omega) (by omega) (by omega) (fun c q1 q2 q3 => by by_cases q4 : c = j * 10 + i; rw [q4]; exact hle9; exact hal c q1 q2 (by omega)) (by omega) H locs (hP.sub [1, 2, 0] rfl) (hD.sub [1, 2, 0] (by decide) rfl) hS ls (lv_sub hl [2, 3, 4, 0] rfl)
      · skip
        have c_7 := Int32.not_le.mp c_7
        have hlt9 : brI f1 b (j * 10 + i) < f3 (j * 10 + i) := by rw [← ev_4]; show f1 _ * f1 _ * b / 100 < _; rw [← hw_6]; exact c_7
        exact kx_45  (⟨j * 10 + i, by omega, by omega, hlt9⟩) H locs (hP.sub [1, 2, 0] rfl) (hD.sub [1, 2, 0] (by decide) rfl) hS ls (lv_sub hl [] rfl)
set_option maxHeartbeats 4000000 in
set_option maxRecDepth 100000 in
theorem lp_s_ball_out {p : Program} {l : Launch} {e : Env} {s : State} {m : MethodId} {args : Array Value} {below : List Frame} {meth : Method} {c : Code} {Q : State → Prop} {A : Nat → Prop} {D : va_G} (F : mFix p s m args c cX6_bearsAll 5 RX6) (hA : ∀ q, s.heap.size ≤ q → A q) (h0 : Nat) (w : Nat) (h : Nat) (q1 : Nat) (q2 : Nat) (q3 : Nat) (q4 : Nat) (q5 : Nat) (q6 : Nat) (cy1 : ClassId) (f1 : Nat → Int32) (cy3 : ClassId) (f3 : Nat → Int32) (b : Int32) (hK : va_K D vwCl [(cy1, .int), (cy3, .int)] s)
    (kx_45 : (∃ c, c % 10 < w ∧ c / 10 < h ∧ brI f1 b c < f3 c) → ∀ (H : Heap) (locs : List Loc), va_P D vwCl [(h0, Sum.inr (5, [Value.int (nI w), Value.int (nI h), Value.ref q1, Value.ref q2, Value.ref q3, Value.ref q4, Value.ref q5, Value.ref q6])), (q1, Sum.inl (cy1, 100, Sum.inl f1)), (q3, Sum.inl (cy3, 100, Sum.inl f3))] H → va_D A [(h0, Sum.inr (5, [Value.int (nI w), Value.int (nI h), Value.ref q1, Value.ref q2, Value.ref q3, Value.ref q4, Value.ref q5, Value.ref q6])), (q1, Sum.inl (cy1, 100, Sum.inl f1)), (q3, Sum.inl (cy3, 100, Sum.inl f3))] → va_S A s.heap H locs → ∀ ls : Array Slot, lv_has ls 5 [] → W p l e ({ frames := 1, cells := 0, slots := 0, locals := 22 }) s m args below meth c H locs 0 0 Q (F0 m 45 ls []))
    (kx_59 : ((∀ c, c % 10 < w → c / 10 < h → ¬ brI f1 b c < f3 c)) → ∀ (H : Heap) (locs : List Loc), va_P D vwCl [(h0, Sum.inr (5, [Value.int (nI w), Value.int (nI h), Value.ref q1, Value.ref q2, Value.ref q3, Value.ref q4, Value.ref q5, Value.ref q6])), (q1, Sum.inl (cy1, 100, Sum.inl f1)), (q3, Sum.inl (cy3, 100, Sum.inl f3))] H → va_D A [(h0, Sum.inr (5, [Value.int (nI w), Value.int (nI h), Value.ref q1, Value.ref q2, Value.ref q3, Value.ref q4, Value.ref q5, Value.ref q6])), (q1, Sum.inl (cy1, 100, Sum.inl f1)), (q3, Sum.inl (cy3, 100, Sum.inl f3))] → va_S A s.heap H locs → ∀ ls : Array Slot, lv_has ls 5 [] → W p l e ({ frames := 1, cells := 0, slots := 0, locals := 22 }) s m args below meth c H locs 0 0 Q (F0 m 59 ls [])) :
    ∀ n : Nat, ∀ (j : Nat), (j ≤ h) → (w ≤ 10) → (h ≤ 10) → (∀ c, c % 10 < w → c / 10 < h → c / 10 < j → ¬ brI f1 b c < f3 c) → (h - j) < n → ∀ (H : Heap) (locs : List Loc), va_P D vwCl [(h0, Sum.inr (5, [Value.int (nI w), Value.int (nI h), Value.ref q1, Value.ref q2, Value.ref q3, Value.ref q4, Value.ref q5, Value.ref q6])), (q1, Sum.inl (cy1, 100, Sum.inl f1)), (q3, Sum.inl (cy3, 100, Sum.inl f3))] H → va_D A [(h0, Sum.inr (5, [Value.int (nI w), Value.int (nI h), Value.ref q1, Value.ref q2, Value.ref q3, Value.ref q4, Value.ref q5, Value.ref q6])), (q1, Sum.inl (cy1, 100, Sum.inl f1)), (q3, Sum.inl (cy3, 100, Sum.inl f3))] → va_S A s.heap H locs → ∀ ls : Array Slot, lv_has ls 5 [(0, Value.ref h0), (1, Value.int b), (2, Value.int (nI j))] → W p l e ({ frames := 1, cells := 0, slots := 0, locals := 22 }) s m args below meth c H locs 0 0 Q (F0 m 2 ls []) := by
  intro n
  induction n with
  | zero => intro j b1 h3 h4 hal hn; exact absurd hn (Nat.not_lt_zero _)
  | succ n ih =>
    intro j b1 h3 h4 hal hn H locs hP hD hS ls hl
    obtain ⟨hx, hb, hml, hown, hts⟩ := id F
    refine lv_iload_n hx hb dX6_bearsAll_2 rfl (lv_at hl 2 rfl) ?_
    refine lv_aload_n hx hb dX6_bearsAll_3 rfl (lv_at hl 0 rfl) ?_
    refine va_get (D := D) (ci := 5) (v := Value.int (nI h)) (C := RX6) (T := TX6) (N := 8) hx hb hts inG_X6 hown hK hP 0 rfl rfl 1 (by decide) (hts _ kw_1_145) (fun _ h9 => h9) rfl dX6_bearsAll_4 ?_
    refine lv_icmp_ge (tgt := 59) hx hb dX6_bearsAll_7 (by decide) (fun c_1 => ?_) (fun c_1 => ?_)
    · skip
      have c_1n : h ≤ j := (nI_leI (by omega) (by omega)).mp c_1
      have c_1 := Int32.not_lt.mpr c_1
      exact kx_59  (fun c q1 q2 => hal c q1 q2 (by omega)) H locs (hP.sub [0, 1, 2] rfl) (hD.sub [0, 1, 2] (by decide) rfl) hS ls (lv_sub hl [] rfl)
    · skip
      have c_1n : j < h := nb_le (by omega) (by omega) c_1
      have c_1 := Int32.not_le.mp c_1
      refine lv_iconst (v := 0) hx hb dX6_bearsAll_10 (by decide) ?_
      refine lv_istore_n (lv' := [(3, Value.int 0), (0, Value.ref h0), (1, Value.int b), (2, Value.int (nI j))]) hx hb dX6_bearsAll_11 rfl hl (by decide) rfl (fun ls hl => ?_)
      refine lp_s_ball_in F hA h0 w h q1 q2 q3 q4 q5 q6 cy1 f1 cy3 f3 b j (hK.sub [0, 1] rfl) (fun  h_2 H locs hP hD hS ls hl => ?_) (fun  h_3 H locs hP hD hS ls hl => ?_) _ 0 (by omega) (by omega) (by omega) (by omega) (fun c q1 q2 q3 => hal c q1 q2 (by omega)) (Nat.lt_succ_self _) _ _ (hP.sub [0, 1, 2] rfl) (hD.sub [0, 1, 2] (by decide) rfl) hS ls (lv_sub hl [1, 2, 3, 0] rfl)
      · skip
        have h_2 : ∃ c, c % 10 < w ∧ c / 10 < h ∧ brI f1 b c < f3 c := h_2
        exact kx_45  h_2 H locs (hP.sub [0, 1, 2] rfl) (hD.sub [0, 1, 2] (by decide) rfl) hS ls (lv_sub hl [] rfl)
      · skip
        have h_3 : ∀ c, c % 10 < w → c / 10 < h → c / 10 < j + 1 → ¬ brI f1 b c < f3 c := h_3
        refine lv_iinc (v := nI (j + 1)) (lv' := [(2, Value.int (nI (j + 1))), (0, Value.ref h0), (1, Value.int b)]) hx hb dX6_bearsAll_53 hl (k := 2) rfl (nI_add j 1) (by decide) rfl (fun ls hl => ?_)
        refine lv_goto (tgt := 2) hx hb dX6_bearsAll_56 (by decide) ?_
        exact ih (j + 1) (by omega) (by omega) (by omega) h_3 (by omega) H locs (hP.sub [0, 1, 2] rfl) (hD.sub [0, 1, 2] (by decide) rfl) hS ls (lv_sub hl [1, 2, 0] rfl)
set_option maxHeartbeats 4000000 in
set_option maxRecDepth 100000 in
theorem s_bearsAll (l : Launch) (D : va_G) (h0 : Nat) (w : Nat) (h : Nat) (q1 : Nat) (q2 : Nat) (q3 : Nat) (q4 : Nat) (q5 : Nat) (q6 : Nat) (cy1 : ClassId) (f1 : Nat → Int32) (cy3 : ClassId) (f3 : Nat → Int32) (b : Int32) (h3 : w ≤ 10) (h4 : h ≤ 10) : cI l yX6_bearsAll (.code yX6_bearsAll cX6_bearsAll 5 (some .boolean)) ({ frames := 1, cells := 0, slots := 0, locals := 22 }) D [(cy1, .int), (cy3, .int)] [(h0, Sum.inr (5, [Value.int (nI w), Value.int (nI h), Value.ref q1, Value.ref q2, Value.ref q3, Value.ref q4, Value.ref q5, Value.ref q6])), (q1, Sum.inl (cy1, 100, Sum.inl f1)), (q3, Sum.inl (cy3, 100, Sum.inl f3))] xT [Value.ref h0, Value.int b] (S := Unit) (fun r _ => (r = 1 ∧ allP w h f1 f3 b) ∨ (r = 0 ∧ ¬ allP w h f1 f3 b)) (fun _ => []) (fun _ => [(h0, Sum.inr (5, [Value.int (nI w), Value.int (nI h), Value.ref q1, Value.ref q2, Value.ref q3, Value.ref q4, Value.ref q5, Value.ref q6])), (q1, Sum.inl (cy1, 100, Sum.inl f1)), (q3, Sum.inl (cy3, 100, Sum.inl f3))]) := by
  intro sz
  refine Met.ofW (cc := cX6_bearsAll) (maxL := 5) (ret := (some .boolean)) (by decide) rfl ?_
  intro p e s m args below meth c s₁ B hml hv
  obtain ⟨rfl, hsz, hP, hK, hD0, hX⟩ := hv
  have hx := B.exec
  have hb := B.bytes
  have hr := B.returns
  have hts0 := atoms_spec (ws := .code yX6_bearsAll cX6_bearsAll 5 (some .boolean) :: gw) B.pre
  have hts := fun (w : Cond) (h : w ∈ gw) => hts0 w (List.mem_cons_of_mem _ h)
  have hown : s.vm.findClass RX6 = some m.cls := findClass_of_methodNamed B.named
  have hlocks := B.notSynchronized
  have F : mFix p s m _ c cX6_bearsAll 5 RX6 := ⟨hx, hb, hml, hown, hts⟩
  subst hsz
  have hD := hD0.self (sz := s.heap.size)
  generalize hAe : va_A [(h0, Sum.inr (5, [Value.int (nI w), Value.int (nI h), Value.ref q1, Value.ref q2, Value.ref q3, Value.ref q4, Value.ref q5, Value.ref q6])), (q1, Sum.inl (cy1, 100, Sum.inl f1)), (q3, Sum.inl (cy3, 100, Sum.inl f3))] s.heap.size = A at hD hX ⊢
  have hA : ∀ q : Nat, s.heap.size ≤ q → A q := fun q h => by rw [← hAe]; exact Or.inr h
  have hS : va_S A s.heap s.heap [] := va_S.rf
  have hl := lv_entry ([Value.ref h0, Value.int b]) (n := 5) (Nat.le_of_ble_eq_true rfl)
  rw [lg_entry_eq]
  generalize (lg_sl ([Value.ref h0, Value.int b]) ++ List.replicate (5 - (lg_sl ([Value.ref h0, Value.int b])).length) Slot.unset).toArray = ls at hl ⊢
  have hl : lv_has ls 5 [(0, Value.ref h0), (1, Value.int b)] := hl
  have hP : va_P D vwCl [(h0, Sum.inr (5, [Value.int (nI w), Value.int (nI h), Value.ref q1, Value.ref q2, Value.ref q3, Value.ref q4, Value.ref q5, Value.ref q6])), (q1, Sum.inl (cy1, 100, Sum.inl f1)), (q3, Sum.inl (cy3, 100, Sum.inl f3))] s.heap := hP
  refine lv_iconst (v := 0) hx hb dX6_bearsAll_0 (by decide) ?_
  refine lv_istore_n (lv' := [(2, Value.int 0), (0, Value.ref h0), (1, Value.int b)]) hx hb dX6_bearsAll_1 rfl hl (by decide) rfl (fun ls hl => ?_)
  refine lp_s_ball_out F hA h0 w h q1 q2 q3 q4 q5 q6 cy1 f1 cy3 f3 b (hK.sub [0, 1] rfl) (fun  h_1 H locs hP hD hS ls hl => ?_) (fun  h_2 H locs hP hD hS ls hl => ?_) _ 0 (by omega) (by omega) (by omega) (fun c _ _ q => absurd q (Nat.not_lt_zero _)) (Nat.lt_succ_self _) _ _ (hP.sub [0, 1, 2] rfl) (hD.sub [0, 1, 2] (by decide) rfl) hS ls (lv_sub hl [1, 2, 0] rfl)
  · skip
    have h_1 : ∃ c, c % 10 < w ∧ c / 10 < h ∧ brI f1 b c < f3 c := h_1
    refine lv_iconst (v := 0) hx hb dX6_bearsAll_45 (by decide) ?_
    have hP9 := hP.sub (ws' := [(h0, Sum.inr (5, [Value.int (nI w), Value.int (nI h), Value.ref q1, Value.ref q2, Value.ref q3, Value.ref q4, Value.ref q5, Value.ref q6])), (q1, Sum.inl (cy1, 100, Sum.inl f1)), (q3, Sum.inl (cy3, 100, Sum.inl f3))]) [0, 1, 2] rfl
    have hD9 := hD.sub (ws' := [(h0, Sum.inr (5, [Value.int (nI w), Value.int (nI h), Value.ref q1, Value.ref q2, Value.ref q3, Value.ref q4, Value.ref q5, Value.ref q6])), (q1, Sum.inl (cy1, 100, Sum.inl f1)), (q3, Sum.inl (cy3, 100, Sum.inl f3))]) [0, 1, 2] (by decide) rfl
    have hK9 := hK.sub (tys' := []) [] rfl
    refine W.widen (k := 0) (n := 0) (by decide) (by decide) ?_
    exact W.zret (v := 0) hx hb hr rfl (fun t ht hW => ⟨⟨0, (), rfl, Or.inr ⟨rfl, fun q => by obtain ⟨c9, q1, q2, q3⟩ := h_1; exact q c9 q1 q2 q3⟩, by rw [ht]; exact hP9, va_K.moved hW.alike hK9, hD9⟩, hS.F ht⟩) hS.2.2 dX6_bearsAll_46
  · skip
    have h_2 : (∀ c, c % 10 < w → c / 10 < h → ¬ brI f1 b c < f3 c) := h_2
    refine lv_iconst (v := 1) hx hb dX6_bearsAll_59 (by decide) ?_
    have hP9 := hP.sub (ws' := [(h0, Sum.inr (5, [Value.int (nI w), Value.int (nI h), Value.ref q1, Value.ref q2, Value.ref q3, Value.ref q4, Value.ref q5, Value.ref q6])), (q1, Sum.inl (cy1, 100, Sum.inl f1)), (q3, Sum.inl (cy3, 100, Sum.inl f3))]) [0, 1, 2] rfl
    have hD9 := hD.sub (ws' := [(h0, Sum.inr (5, [Value.int (nI w), Value.int (nI h), Value.ref q1, Value.ref q2, Value.ref q3, Value.ref q4, Value.ref q5, Value.ref q6])), (q1, Sum.inl (cy1, 100, Sum.inl f1)), (q3, Sum.inl (cy3, 100, Sum.inl f3))]) [0, 1, 2] (by decide) rfl
    have hK9 := hK.sub (tys' := []) [] rfl
    refine W.widen (k := 0) (n := 0) (by decide) (by decide) ?_
    exact W.zret (v := 1) hx hb hr rfl (fun t ht hW => ⟨⟨1, (), rfl, Or.inl ⟨rfl, h_2⟩, by rw [ht]; exact hP9, va_K.moved hW.alike hK9, hD9⟩, hS.F ht⟩) hS.2.2 dX6_bearsAll_60
