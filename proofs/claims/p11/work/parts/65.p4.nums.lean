set_option maxHeartbeats 4000000 in
set_option maxRecDepth 100000 in
theorem lp_p_readNumbers {p : Program} {l : Launch} {e : Env} {s : State} {m : MethodId} {args : Array Value} {below : List Frame} {meth : Method} {c : Code} {Q : State → Prop} {A : Nat → Prop} {D : va_G} (F : mFix p s m args c cX2_readNumbers 5 RX2) (hA : ∀ q, s.heap.size ≤ q → A q) (en : Nat → Nat) (h0 : Nat) (va : Nat) (tx : Nat) (cu : Nat) (cu1 : Nat) (cu2 : Nat) (cu3 : Nat) (cu4 : Nat) (tc : ClassId) (vc : ClassId) (cc2 : ClassId) (cc3 : ClassId) (ft : Nat → Int32) (c2 : Nat → Int32) (c3 : Nat → Int32) (nn : Nat) (sc : Nat) (to : Int32) (sx : Nat → Nat) (sy : Nat → Nat) (i : Nat) (fk : Int32) (fp : Int32) (nx0 : Nat) (R : Nat × Nat × Nat × (Nat → Nat)) (hK : va_K D vwCl [(vc, .int), (tc, .int), (cc2, .int), (cc3, .int)] s) (hX : (xN en) A s)
    (kx_39 : ∀ (nx : Nat) (s1 : Nat) (tk : Int32) (vl : Int32) (fv : Nat → Int32), (nx ≤ nn) → (nx0 ≤ nx) → (R.1 = 1 ∧ R.2.1 = s1) → ∀ (H : Heap) (locs : List Loc), va_P D vwCl [(h0, Sum.inr (2, [Value.int fk, Value.int fp, Value.ref va, Value.ref tx, Value.int (nI nn), Value.int (nI nx), Value.int tk, Value.int (nI s1), Value.int vl])), (va, Sum.inl (vc, 3, Sum.inl fv)), (tx, Sum.inl (tc, 400, Sum.inl ft)), (cu, Sum.inr (1, [Value.ref cu1, Value.ref cu2, Value.ref cu3, Value.ref cu4, Value.int (nI sc), Value.int to])), (cu2, Sum.inl (cc2, 4, Sum.inl c2)), (cu3, Sum.inl (cc3, 4, Sum.inl c3))] H → va_D A [(h0, Sum.inr (2, [Value.int fk, Value.int fp, Value.ref va, Value.ref tx, Value.int (nI nn), Value.int (nI nx), Value.int tk, Value.int (nI s1), Value.int vl])), (va, Sum.inl (vc, 3, Sum.inl fv)), (tx, Sum.inl (tc, 400, Sum.inl ft)), (cu, Sum.inr (1, [Value.ref cu1, Value.ref cu2, Value.ref cu3, Value.ref cu4, Value.int (nI sc), Value.int to])), (cu2, Sum.inl (cc2, 4, Sum.inl c2)), (cu3, Sum.inl (cc3, 4, Sum.inl c3))] → va_S A s.heap H locs → ∀ ls : Array Slot, lv_has ls 5 [(0, Value.ref h0)] → W p l e ({ frames := 3, cells := 0, slots := 0, locals := 100 }) s m args below meth c H locs 0 0 Q (F0 m 39 ls []))
    (kx_62 : ∀ (nx : Nat) (s1 : Nat) (tk : Int32) (vl : Int32) (fv : Nat → Int32), (nx ≤ nn) → (nx0 ≤ nx) → (R.1 = 2 ∧ R.2.1 = s1) → ∀ (H : Heap) (locs : List Loc), va_P D vwCl [(h0, Sum.inr (2, [Value.int fk, Value.int fp, Value.ref va, Value.ref tx, Value.int (nI nn), Value.int (nI nx), Value.int tk, Value.int (nI s1), Value.int vl])), (va, Sum.inl (vc, 3, Sum.inl fv)), (tx, Sum.inl (tc, 400, Sum.inl ft)), (cu, Sum.inr (1, [Value.ref cu1, Value.ref cu2, Value.ref cu3, Value.ref cu4, Value.int (nI sc), Value.int to])), (cu2, Sum.inl (cc2, 4, Sum.inl c2)), (cu3, Sum.inl (cc3, 4, Sum.inl c3))] H → va_D A [(h0, Sum.inr (2, [Value.int fk, Value.int fp, Value.ref va, Value.ref tx, Value.int (nI nn), Value.int (nI nx), Value.int tk, Value.int (nI s1), Value.int vl])), (va, Sum.inl (vc, 3, Sum.inl fv)), (tx, Sum.inl (tc, 400, Sum.inl ft)), (cu, Sum.inr (1, [Value.ref cu1, Value.ref cu2, Value.ref cu3, Value.ref cu4, Value.int (nI sc), Value.int to])), (cu2, Sum.inl (cc2, 4, Sum.inl c2)), (cu3, Sum.inl (cc3, 4, Sum.inl c3))] → va_S A s.heap H locs → ∀ ls : Array Slot, lv_has ls 5 [(0, Value.ref h0)] → W p l e ({ frames := 3, cells := 0, slots := 0, locals := 100 }) s m args below meth c H locs 0 0 Q (F0 m 62 ls []))
    (kx_125 : ∀ (nx : Nat) (tk : Int32) (st : Int32) (vl : Int32) (fv : Nat → Int32) (pl : Nat), (nx ≤ nn) → (nx0 ≤ nx) → (R.1 = 3 ∧ R.2.1 = pl) → ∀ (H : Heap) (locs : List Loc), va_P D vwCl [(h0, Sum.inr (2, [Value.int fk, Value.int fp, Value.ref va, Value.ref tx, Value.int (nI nn), Value.int (nI nx), Value.int tk, Value.int st, Value.int vl])), (va, Sum.inl (vc, 3, Sum.inl fv)), (tx, Sum.inl (tc, 400, Sum.inl ft)), (cu, Sum.inr (1, [Value.ref cu1, Value.ref cu2, Value.ref cu3, Value.ref cu4, Value.int (nI sc), Value.int to])), (cu2, Sum.inl (cc2, 4, Sum.inl c2)), (cu3, Sum.inl (cc3, 4, Sum.inl c3))] H → va_D A [(h0, Sum.inr (2, [Value.int fk, Value.int fp, Value.ref va, Value.ref tx, Value.int (nI nn), Value.int (nI nx), Value.int tk, Value.int st, Value.int vl])), (va, Sum.inl (vc, 3, Sum.inl fv)), (tx, Sum.inl (tc, 400, Sum.inl ft)), (cu, Sum.inr (1, [Value.ref cu1, Value.ref cu2, Value.ref cu3, Value.ref cu4, Value.int (nI sc), Value.int to])), (cu2, Sum.inl (cc2, 4, Sum.inl c2)), (cu3, Sum.inl (cc3, 4, Sum.inl c3))] → va_S A s.heap H locs → ∀ ls : Array Slot, lv_has ls 5 [(0, Value.ref h0), (3, Value.int (nI pl))] → W p l e ({ frames := 3, cells := 0, slots := 0, locals := 100 }) s m args below meth c H locs 0 0 Q (F0 m 125 ls []))
    (kx_138 : ∀ (nx : Nat) (tk : Int32) (st : Int32) (vl : Int32) (fv : Nat → Int32) (v : Nat → Nat), (nx ≤ nn) → (nx0 ≤ nx) → (R = (0, 0, nx, v)) → (∀ q, q < nuN i → fv q = nI (v q)) → (∀ q, v q ≤ 1000) → ∀ (H : Heap) (locs : List Loc), va_P D vwCl [(h0, Sum.inr (2, [Value.int fk, Value.int fp, Value.ref va, Value.ref tx, Value.int (nI nn), Value.int (nI nx), Value.int tk, Value.int st, Value.int vl])), (va, Sum.inl (vc, 3, Sum.inl fv)), (tx, Sum.inl (tc, 400, Sum.inl ft)), (cu, Sum.inr (1, [Value.ref cu1, Value.ref cu2, Value.ref cu3, Value.ref cu4, Value.int (nI sc), Value.int to])), (cu2, Sum.inl (cc2, 4, Sum.inl c2)), (cu3, Sum.inl (cc3, 4, Sum.inl c3))] H → va_D A [(h0, Sum.inr (2, [Value.int fk, Value.int fp, Value.ref va, Value.ref tx, Value.int (nI nn), Value.int (nI nx), Value.int tk, Value.int st, Value.int vl])), (va, Sum.inl (vc, 3, Sum.inl fv)), (tx, Sum.inl (tc, 400, Sum.inl ft)), (cu, Sum.inr (1, [Value.ref cu1, Value.ref cu2, Value.ref cu3, Value.ref cu4, Value.int (nI sc), Value.int to])), (cu2, Sum.inl (cc2, 4, Sum.inl c2)), (cu3, Sum.inl (cc3, 4, Sum.inl c3))] → va_S A s.heap H locs → ∀ ls : Array Slot, lv_has ls 5 [] → W p l e ({ frames := 3, cells := 0, slots := 0, locals := 100 }) s m args below meth c H locs 0 0 Q (F0 m 138 ls [])) :
    ∀ n : Nat, ∀ (nx : Nat) (tk : Int32) (st : Int32) (vl : Int32) (fv : Nat → Int32) (pl : Nat) (t : Nat) (v : Nat → Nat), (t ≤ nuN i) → (i < 7) → (nuN i ≤ 3) → (nx ≤ nn) → (nn ≤ 400) → (sc ≤ 4) → (nx0 ≤ nx) → (∀ q, q < sc → c2 q = nI (sx q) ∧ c3 q = nI (sy q) ∧ sx q ≤ 1000 ∧ sy q ≤ 1000) → (numsF ft nn i (cDup sx sy sc) (nuN i - t) t nx pl v = R) → (∀ q, q < t → fv q = nI (v q)) → (∀ q, v q ≤ 1000) → (nuN i - t) < n → ∀ (H : Heap) (locs : List Loc), va_P D vwCl [(h0, Sum.inr (2, [Value.int fk, Value.int fp, Value.ref va, Value.ref tx, Value.int (nI nn), Value.int (nI nx), Value.int tk, Value.int st, Value.int vl])), (va, Sum.inl (vc, 3, Sum.inl fv)), (tx, Sum.inl (tc, 400, Sum.inl ft)), (cu, Sum.inr (1, [Value.ref cu1, Value.ref cu2, Value.ref cu3, Value.ref cu4, Value.int (nI sc), Value.int to])), (cu2, Sum.inl (cc2, 4, Sum.inl c2)), (cu3, Sum.inl (cc3, 4, Sum.inl c3))] H → va_D A [(h0, Sum.inr (2, [Value.int fk, Value.int fp, Value.ref va, Value.ref tx, Value.int (nI nn), Value.int (nI nx), Value.int tk, Value.int st, Value.int vl])), (va, Sum.inl (vc, 3, Sum.inl fv)), (tx, Sum.inl (tc, 400, Sum.inl ft)), (cu, Sum.inr (1, [Value.ref cu1, Value.ref cu2, Value.ref cu3, Value.ref cu4, Value.int (nI sc), Value.int to])), (cu2, Sum.inl (cc2, 4, Sum.inl c2)), (cu3, Sum.inl (cc3, 4, Sum.inl c3))] → va_S A s.heap H locs → ∀ ls : Array Slot, lv_has ls 5 [(0, Value.ref h0), (1, Value.ref (en i)), (2, Value.ref cu), (3, Value.int (nI pl)), (4, Value.int (nI t))] → W p l e ({ frames := 3, cells := 0, slots := 0, locals := 100 }) s m args below meth c H locs 0 0 Q (F0 m 8 ls []) := by
  intro n
  induction n with
  | zero => intro nx tk st vl fv pl t v ht hi7 hn3 hnxn hn4 hsc4 hx0 hcs hR hfv hv9 hn; exact absurd hn (Nat.not_lt_zero _)
  | succ n ih =>
    intro nx tk st vl fv pl t v ht hi7 hn3 hnxn hn4 hsc4 hx0 hcs hR hfv hv9 hn H locs hP hD hS ls hl
    obtain ⟨hx, hb, hml, hown, hts⟩ := id F
    refine lv_iload hx hb dX2_readNumbers_8 (lv_at hl 4 rfl) ?_
    refine lv_aload_n hx hb dX2_readNumbers_10 rfl (lv_at hl 1 rfl) ?_
    refine x_getE hx hb (i := i) hX (by omega) hS hown (q := (RX5, "numbers", "I", enNu)) (List.mem_of_getElem? (i := 1) rfl) rfl (hts _ kw_6_41) dX2_readNumbers_11 ?_
    refine lv_topi (fun z_1 ez_1 => ?_)
    obtain rfl : z_1 = nI (nuN i) := ez_1.trans (enNu_nI i (by omega))
    refine lv_icmp_ge (tgt := 138) hx hb dX2_readNumbers_14 (by decide) (fun c_2 => ?_) (fun c_2 => ?_)
    · skip
      have c_2n : (nuN i) ≤ t := (nI_leI (by omega) (by omega)).mp c_2
      have c_2 := Int32.not_lt.mpr c_2
      exact kx_138 nx tk st vl fv v (by omega) (by omega) (by rw [← hR, show nuN i - t = 0 by omega]; rfl) (fun q hq => hfv q (by omega)) hv9 H locs (hP.sub [0, 1, 2, 3, 4, 5] rfl) (hD.sub [0, 1, 2, 3, 4, 5] (by decide) rfl) hS ls (lv_sub hl [] rfl)
    · skip
      have c_2n : t < (nuN i) := nb_le (by omega) (by omega) c_2
      have c_2 := Int32.not_le.mp c_2
      refine lv_iload hx hb dX2_readNumbers_17 (lv_at hl 4 rfl) ?_
      refine lv_aload_n hx hb dX2_readNumbers_19 rfl (lv_at hl 0 rfl) ?_
      refine va_get (D := D) (ci := 2) (v := Value.ref va) (C := RX2) (T := TX2) (N := 9) hx hb hts inG_X2 hown hK hP 0 rfl rfl 2 (by decide) (hts _ kw_1_58) (fun _ h9 => h9) rfl dX2_readNumbers_20 ?_
      refine va_alen hx hb hK hP 1 0 rfl rfl (v := 3) rfl dX2_readNumbers_23 ?_
      refine lv_icmp_ge (tgt := 138) hx hb dX2_readNumbers_24 (by decide) (fun c_3 => ?_) (fun c_3 => ?_)
      · skip
        have c_3n : 3 ≤ t := (nI_leI (by omega) (by omega)).mp c_3
        have c_3 := Int32.not_lt.mpr c_3
        exact kx_138 nx tk st vl fv v (by omega) (by omega) (by rw [← hR, show nuN i - t = 0 by omega]; rfl) (fun q hq => hfv q (by omega)) hv9 H locs (hP.sub [0, 1, 2, 3, 4, 5] rfl) (hD.sub [0, 1, 2, 3, 4, 5] (by decide) rfl) hS ls (lv_sub hl [] rfl)
      · skip
        have c_3n : t < 3 := nb_le (by omega) (by omega) c_3
        have c_3 := Int32.not_le.mp c_3
        refine lv_aload_n hx hb dX2_readNumbers_27 rfl (lv_at hl 0 rfl) ?_
        refine mc_Vv (rest := []) (wr := [(va, Sum.inl (vc, 3, Sum.inl fv)), (cu, Sum.inr (1, [Value.ref cu1, Value.ref cu2, Value.ref cu3, Value.ref cu4, Value.int (nI sc), Value.int to])), (cu2, Sum.inl (cc2, 4, Sum.inl c2)), (cu3, Sum.inl (cc3, 4, Sum.inl c3))]) F hK hP hD hS hA (p_takeToken l D h0 va tx nn nx fk fp tk st vl tc ft (by omega) (by omega)) ⟨gk_X2_36.1, gk_X2_36.2, Nat.le_of_ble_eq_true rfl, Nat.le_of_ble_eq_true rfl⟩ [0, 2] [1, 3, 4, 5] [1] ⟨rfl, rfl, rfl, rfl, by decide⟩ rfl xT_move (fun _ _ _ => trivial) 0 rfl rfl rfl hl.1 rfl (Nat.le_of_ble_eq_true rfl) dX2_readNumbers_28 ⟨Nat.le_of_ble_eq_true rfl, Nat.le_of_ble_eq_true rfl⟩ (fun u H locs hw hK1 hP hD hS => ?_)
        obtain ⟨s1_4, nx1_5, tk1_6, vl1_7⟩ := u
        have hP : va_P D vwCl [(va, Sum.inl (vc, 3, Sum.inl fv)), (cu, Sum.inr (1, [Value.ref cu1, Value.ref cu2, Value.ref cu3, Value.ref cu4, Value.int (nI sc), Value.int to])), (cu2, Sum.inl (cc2, 4, Sum.inl c2)), (cu3, Sum.inl (cc3, 4, Sum.inl c3)), (h0, Sum.inr (2, [Value.int fk, Value.int fp, Value.ref va, Value.ref tx, Value.int (nI nn), Value.int (nI nx1_5), Value.int (nI tk1_6), Value.int (nI s1_4), Value.int vl1_7])), (tx, Sum.inl (tc, 400, Sum.inl ft))] H := hP
        have hD : va_D A [(va, Sum.inl (vc, 3, Sum.inl fv)), (cu, Sum.inr (1, [Value.ref cu1, Value.ref cu2, Value.ref cu3, Value.ref cu4, Value.int (nI sc), Value.int to])), (cu2, Sum.inl (cc2, 4, Sum.inl c2)), (cu3, Sum.inl (cc3, 4, Sum.inl c3)), (h0, Sum.inr (2, [Value.int fk, Value.int fp, Value.ref va, Value.ref tx, Value.int (nI nn), Value.int (nI nx1_5), Value.int (nI tk1_6), Value.int (nI s1_4), Value.int vl1_7])), (tx, Sum.inl (tc, 400, Sum.inl ft))] := hD
        have hw_9 : s1_4 = tS ft nn nx ∧ nx1_5 = tN ft nn s1_4 ∧ tk1_6 = tK ft nn s1_4 ∧ (tk1_6 = 2 → vl1_7 = nI (tV ft nn s1_4)) := hw
        have hsb : nx ≤ s1_4 ∧ s1_4 ≤ nn := by rw [hw_9.1]; exact tS_le (by omega)
        have heb : s1_4 ≤ nx1_5 ∧ nx1_5 ≤ nn := by rw [hw_9.2.1]; exact tN_le hsb.2
        have htb : tk1_6 ≤ 4 := by rw [hw_9.2.2.1]; exact tK_le
        refine lv_aload_n hx hb dX2_readNumbers_31 rfl (lv_at hl 0 rfl) ?_
        refine va_get (D := D) (ci := 2) (v := Value.int (nI tk1_6)) (C := RX2) (T := TX2) (N := 9) hx hb hts inG_X2 hown hK hP 4 rfl rfl 6 (by decide) (hts _ kw_1_62) (fun _ h9 => h9) rfl dX2_readNumbers_32 ?_
        refine lv_iconst (v := 2) hx hb dX2_readNumbers_35 (by decide) ?_
        refine lv_icmp_eq (tgt := 49) hx hb dX2_readNumbers_36 (by decide) (fun c_10 => ?_) (fun c_10 => ?_)
        · skip
          have c_10n : tk1_6 = 2 := (nI_eq (by omega) (by omega)).mp c_10
          have hvl := hw_9.2.2.2 c_10n
          have hvb : tV ft nn s1_4 ≤ 1000 := tV_le
          subst hvl
          have hl : lv_has ls 5 [(0, Value.ref h0), (1, Value.ref (en i)), (2, Value.ref cu), (3, Value.int (nI pl)), (4, Value.int (nI t))] := hl
          refine lv_aload_n hx hb dX2_readNumbers_49 rfl (lv_at hl 1 rfl) ?_
          refine lv_iload hx hb dX2_readNumbers_50 (lv_at hl 4 rfl) ?_
          refine lv_aload_n hx hb dX2_readNumbers_52 rfl (lv_at hl 0 rfl) ?_
          refine va_get (D := D) (ci := 2) (v := Value.int (nI (tV ft nn s1_4))) (C := RX2) (T := TX2) (N := 9) hx hb hts inG_X2 hown hK hP 4 rfl rfl 8 (by decide) (hts _ kw_1_64) (fun _ h9 => h9) rfl dX2_readNumbers_53 ?_
          refine mc_Ki (rest := []) (wr := [(va, Sum.inl (vc, 3, Sum.inl fv)), (cu, Sum.inr (1, [Value.ref cu1, Value.ref cu2, Value.ref cu3, Value.ref cu4, Value.int (nI sc), Value.int to])), (cu2, Sum.inl (cc2, 4, Sum.inl c2)), (cu3, Sum.inl (cc3, 4, Sum.inl c3)), (h0, Sum.inr (2, [Value.int fk, Value.int fp, Value.ref va, Value.ref tx, Value.int (nI nn), Value.int (nI nx1_5), Value.int (nI tk1_6), Value.int (nI s1_4), Value.int (nI (tV ft nn s1_4))])), (tx, Sum.inl (tc, 400, Sum.inl ft))]) F hK hP hD hS hA (p_allows l D en i t (tV ft nn s1_4) (by omega) (by omega) (by omega)) ⟨gk_X2_84.1, gk_X2_84.2, Nat.le_of_ble_eq_true rfl, Nat.le_of_ble_eq_true rfl⟩ [] [0, 1, 2, 3, 4, 5] [] ⟨rfl, rfl, rfl, rfl, by decide⟩ rfl (xN_move en) (xN_use hX hS (va_free hD hS hA [] rfl)) (x_rvE hX (by omega) hS) rfl hl.1 rfl (Nat.le_of_ble_eq_true rfl) dX2_readNumbers_56 ⟨Nat.le_of_ble_eq_true rfl, Nat.le_of_ble_eq_true rfl⟩ (fun r_11 _ H locs hw hK1 hP hD hS => ?_)
          have hP : va_P D vwCl [(va, Sum.inl (vc, 3, Sum.inl fv)), (cu, Sum.inr (1, [Value.ref cu1, Value.ref cu2, Value.ref cu3, Value.ref cu4, Value.int (nI sc), Value.int to])), (cu2, Sum.inl (cc2, 4, Sum.inl c2)), (cu3, Sum.inl (cc3, 4, Sum.inl c3)), (h0, Sum.inr (2, [Value.int fk, Value.int fp, Value.ref va, Value.ref tx, Value.int (nI nn), Value.int (nI nx1_5), Value.int (nI tk1_6), Value.int (nI s1_4), Value.int (nI (tV ft nn s1_4))])), (tx, Sum.inl (tc, 400, Sum.inl ft))] H := hP
          have hD : va_D A [(va, Sum.inl (vc, 3, Sum.inl fv)), (cu, Sum.inr (1, [Value.ref cu1, Value.ref cu2, Value.ref cu3, Value.ref cu4, Value.int (nI sc), Value.int to])), (cu2, Sum.inl (cc2, 4, Sum.inl c2)), (cu3, Sum.inl (cc3, 4, Sum.inl c3)), (h0, Sum.inr (2, [Value.int fk, Value.int fp, Value.ref va, Value.ref tx, Value.int (nI nn), Value.int (nI nx1_5), Value.int (nI tk1_6), Value.int (nI s1_4), Value.int (nI (tV ft nn s1_4))])), (tx, Sum.inl (tc, 400, Sum.inl ft))] := hD
          have hw_12 : r_11 = (if (tV ft nn s1_4) < nLo i t ∨ mxN i < (tV ft nn s1_4) then 0 else 1) := hw
          by_cases hb_13 : tV ft nn s1_4 < nLo i t ∨ mxN i < tV ft nn s1_4
          · skip
            obtain rfl : r_11 = 0 := by rw [hw_12, if_pos hb_13]
            refine lv_if_ne (tgt := 72) hx hb dX2_readNumbers_59 (by decide) (fun c_14 => absurd c_14 (by decide)) (fun c_14 => ?_)
            exact kx_62 nx1_5 s1_4 (nI tk1_6) (nI (tV ft nn s1_4)) fv (by omega) (by omega) (by rw [← hR, (show nuN i - t = (nuN i - (t + 1)) + 1 by omega), num_bey hw_9.1 hw_9.2.2.1 c_10n rfl hb_13]; exact ⟨rfl, rfl⟩) H locs (hP.sub [4, 0, 5, 1, 2, 3] rfl) (hD.sub [4, 0, 5, 1, 2, 3] (by decide) rfl) hS ls (lv_sub hl [0] rfl)
          · skip
            obtain rfl : r_11 = 1 := by rw [hw_12, if_neg hb_13]
            refine lv_if_ne (tgt := 72) hx hb dX2_readNumbers_59 (by decide) (fun c_15 => ?_) (fun c_15 => absurd c_15 (by decide))
            refine lv_aload_n hx hb dX2_readNumbers_72 rfl (lv_at hl 0 rfl) ?_
            refine va_get (D := D) (ci := 2) (v := Value.ref va) (C := RX2) (T := TX2) (N := 9) hx hb hts inG_X2 hown hK hP 4 rfl rfl 2 (by decide) (hts _ kw_1_58) (fun _ h9 => h9) rfl dX2_readNumbers_73 ?_
            refine lv_iload hx hb dX2_readNumbers_76 (lv_at hl 4 rfl) ?_
            refine lv_aload_n hx hb dX2_readNumbers_78 rfl (lv_at hl 0 rfl) ?_
            refine va_get (D := D) (ci := 2) (v := Value.int (nI (tV ft nn s1_4))) (C := RX2) (T := TX2) (N := 9) hx hb hts inG_X2 hown hK hP 4 rfl rfl 8 (by decide) (hts _ kw_1_64) (fun _ h9 => h9) rfl dX2_readNumbers_79 ?_
            refine m_iast hx hb hK hP hD hS 0 0 rfl rfl t rfl (by omega) (by decide) dX2_readNumbers_82 (fun g_16 H locs eg_16 hP hD hS => ?_)
            have hP : va_P D vwCl [(va, Sum.inl (vc, 3, Sum.inl g_16)), (cu, Sum.inr (1, [Value.ref cu1, Value.ref cu2, Value.ref cu3, Value.ref cu4, Value.int (nI sc), Value.int to])), (cu2, Sum.inl (cc2, 4, Sum.inl c2)), (cu3, Sum.inl (cc3, 4, Sum.inl c3)), (h0, Sum.inr (2, [Value.int fk, Value.int fp, Value.ref va, Value.ref tx, Value.int (nI nn), Value.int (nI nx1_5), Value.int (nI tk1_6), Value.int (nI s1_4), Value.int (nI (tV ft nn s1_4))])), (tx, Sum.inl (tc, 400, Sum.inl ft))] H := hP
            have hD : va_D A [(va, Sum.inl (vc, 3, Sum.inl g_16)), (cu, Sum.inr (1, [Value.ref cu1, Value.ref cu2, Value.ref cu3, Value.ref cu4, Value.int (nI sc), Value.int to])), (cu2, Sum.inl (cc2, 4, Sum.inl c2)), (cu3, Sum.inl (cc3, 4, Sum.inl c3)), (h0, Sum.inr (2, [Value.int fk, Value.int fp, Value.ref va, Value.ref tx, Value.int (nI nn), Value.int (nI nx1_5), Value.int (nI tk1_6), Value.int (nI s1_4), Value.int (nI (tV ft nn s1_4))])), (tx, Sum.inl (tc, 400, Sum.inl ft))] := hD
            refine lv_iload hx hb dX2_readNumbers_83 (lv_at hl 4 rfl) ?_
            refine lv_if_ne (tgt := 93) hx hb dX2_readNumbers_85 (by decide) (fun c_17 => ?_) (fun c_17 => ?_)
            · skip
              have c_17n : ¬ t = 0 := nb_eq (by omega) (by omega) c_17
              refine lv_aload_n hx hb dX2_readNumbers_93 rfl (lv_at hl 1 rfl) ?_
              refine va_gets hx hb (C := RX5) (n := "STAIR") ((hX).1 6 (by decide)).1 hS hown (hts _ kw_2_197) (fun _ h9 => h9) dX2_readNumbers_94 ?_
              refine x_acmp_ne (tgt := 132) hx hb dX2_readNumbers_97 (by decide) (fun c_18 => ?_) (fun c_18 => ?_)
              · skip
                refine lv_iinc (v := nI (t + 1)) (lv' := [(4, Value.int (nI (t + 1))), (0, Value.ref h0), (1, Value.ref (en i)), (2, Value.ref cu), (3, Value.int (nI pl))]) hx hb dX2_readNumbers_132 hl (k := 4) rfl (nI_add t 1) (by decide) rfl (fun ls hl => ?_)
                refine lv_goto (tgt := 8) hx hb dX2_readNumbers_135 (by decide) ?_
                exact ih nx1_5 (nI tk1_6) (nI s1_4) (nI (tV ft nn s1_4)) g_16 pl (t + 1) (upN v t (tV ft nn s1_4)) (by omega) (by omega) hn3 (by omega) (by omega) (by omega) (by omega) hcs (by rw [← hR, (show nuN i - t = (nuN i - (t + 1)) + 1 by omega), num_go hw_9.1 hw_9.2.2.1 c_10n rfl hw_9.2.1 hb_13 (fun q => c_18 (by rw [q.1])), if_neg c_17n]) (fv_up hfv eg_16) (up_le hv9 hvb) (by omega) H locs (hP.sub [4, 0, 5, 1, 2, 3] rfl) (hD.sub [4, 0, 5, 1, 2, 3] (by decide) rfl) hS ls (lv_sub hl [1, 2, 3, 4, 0] rfl)
              · skip
                have hi6 : i = 6 := x_ne hX hi7 (by decide) c_18
                refine lv_iload hx hb dX2_readNumbers_100 (lv_at hl 4 rfl) ?_
                refine lv_iconst (v := 1) hx hb dX2_readNumbers_102 (by decide) ?_
                refine lv_icmp_ne (tgt := 132) hx hb dX2_readNumbers_103 (by decide) (fun c_19 => ?_) (fun c_19 => ?_)
                · skip
                  have c_19n : ¬ t = 1 := nb_eq (by omega) (by omega) c_19
                  refine lv_iinc (v := nI (t + 1)) (lv' := [(4, Value.int (nI (t + 1))), (0, Value.ref h0), (1, Value.ref (en i)), (2, Value.ref cu), (3, Value.int (nI pl))]) hx hb dX2_readNumbers_132 hl (k := 4) rfl (nI_add t 1) (by decide) rfl (fun ls hl => ?_)
                  refine lv_goto (tgt := 8) hx hb dX2_readNumbers_135 (by decide) ?_
                  exact ih nx1_5 (nI tk1_6) (nI s1_4) (nI (tV ft nn s1_4)) g_16 pl (t + 1) (upN v t (tV ft nn s1_4)) (by omega) (by omega) hn3 (by omega) (by omega) (by omega) (by omega) hcs (by rw [← hR, (show nuN i - t = (nuN i - (t + 1)) + 1 by omega), num_go hw_9.1 hw_9.2.2.1 c_10n rfl hw_9.2.1 hb_13 (fun q => c_19n q.2.1), if_neg c_17n]) (fv_up hfv eg_16) (up_le hv9 hvb) (by omega) H locs (hP.sub [4, 0, 5, 1, 2, 3] rfl) (hD.sub [4, 0, 5, 1, 2, 3] (by decide) rfl) hS ls (lv_sub hl [1, 2, 3, 4, 0] rfl)
                · skip
                  have c_19n : t = 1 := (nI_eq (by omega) (by omega)).mp c_19
                  refine lv_aload_n hx hb dX2_readNumbers_106 rfl (lv_at hl 2 rfl) ?_
                  refine lv_aload_n hx hb dX2_readNumbers_107 rfl (lv_at hl 0 rfl) ?_
                  refine va_get (D := D) (ci := 2) (v := Value.ref va) (C := RX2) (T := TX2) (N := 9) hx hb hts inG_X2 hown hK hP 4 rfl rfl 2 (by decide) (hts _ kw_1_58) (fun _ h9 => h9) rfl dX2_readNumbers_108 ?_
                  refine lv_iconst (v := 0) hx hb dX2_readNumbers_111 (by decide) ?_
                  refine m_iald hx hb hK hP 0 0 rfl rfl 0 rfl (by decide) (by decide) dX2_readNumbers_112 ?_
                  refine lv_topi (fun v_20 ev_20 => ?_)
                  have hv0 : v_20 = nI (v 0) := by rw [ev_20, eg_16, pk_un (show ¬ 0 = t by omega)]; exact hfv 0 (by omega)
                  subst hv0
                  refine lv_aload_n hx hb dX2_readNumbers_113 rfl (lv_at hl 0 rfl) ?_
                  refine va_get (D := D) (ci := 2) (v := Value.ref va) (C := RX2) (T := TX2) (N := 9) hx hb hts inG_X2 hown hK hP 4 rfl rfl 2 (by decide) (hts _ kw_1_58) (fun _ h9 => h9) rfl dX2_readNumbers_114 ?_
                  refine lv_iconst (v := 1) hx hb dX2_readNumbers_117 (by decide) ?_
                  refine m_iald hx hb hK hP 0 0 rfl rfl 1 rfl (by decide) (by decide) dX2_readNumbers_118 ?_
                  refine lv_topi (fun v_21 ev_21 => ?_)
                  have hv1 : v_21 = nI (tV ft nn s1_4) := by rw [ev_21, eg_16, show t = 1 by omega, pk_us]
                  subst hv1
                  refine mc_Vi (rest := []) (wr := [(va, Sum.inl (vc, 3, Sum.inl g_16)), (h0, Sum.inr (2, [Value.int fk, Value.int fp, Value.ref va, Value.ref tx, Value.int (nI nn), Value.int (nI nx1_5), Value.int (nI tk1_6), Value.int (nI s1_4), Value.int (nI (tV ft nn s1_4))])), (tx, Sum.inl (tc, 400, Sum.inl ft))]) F hK hP hD hS hA (p_hasStairAt l D cu cu1 cu2 cu3 cu4 cc2 cc3 c2 c3 sc to sx sy (v 0) (tV ft nn s1_4) (by omega) hcs (hv9 0) hvb) ⟨gk_X2_87.1, gk_X2_87.2, Nat.le_of_ble_eq_true rfl, Nat.le_of_ble_eq_true rfl⟩ [1, 2, 3] [0, 4, 5] [2, 3] ⟨rfl, rfl, rfl, rfl, by decide⟩ rfl xT_move (fun _ _ _ => trivial) 1 rfl rfl rfl hl.1 rfl (Nat.le_of_ble_eq_true rfl) dX2_readNumbers_119 ⟨Nat.le_of_ble_eq_true rfl, Nat.le_of_ble_eq_true rfl⟩ (fun r_22 _ H locs hw hK1 hP hD hS => ?_)
                  have hP : va_P D vwCl [(va, Sum.inl (vc, 3, Sum.inl g_16)), (h0, Sum.inr (2, [Value.int fk, Value.int fp, Value.ref va, Value.ref tx, Value.int (nI nn), Value.int (nI nx1_5), Value.int (nI tk1_6), Value.int (nI s1_4), Value.int (nI (tV ft nn s1_4))])), (tx, Sum.inl (tc, 400, Sum.inl ft)), (cu, Sum.inr (1, [Value.ref cu1, Value.ref cu2, Value.ref cu3, Value.ref cu4, Value.int (nI sc), Value.int to])), (cu2, Sum.inl (cc2, 4, Sum.inl c2)), (cu3, Sum.inl (cc3, 4, Sum.inl c3))] H := hP
                  have hD : va_D A [(va, Sum.inl (vc, 3, Sum.inl g_16)), (h0, Sum.inr (2, [Value.int fk, Value.int fp, Value.ref va, Value.ref tx, Value.int (nI nn), Value.int (nI nx1_5), Value.int (nI tk1_6), Value.int (nI s1_4), Value.int (nI (tV ft nn s1_4))])), (tx, Sum.inl (tc, 400, Sum.inl ft)), (cu, Sum.inr (1, [Value.ref cu1, Value.ref cu2, Value.ref cu3, Value.ref cu4, Value.int (nI sc), Value.int to])), (cu2, Sum.inl (cc2, 4, Sum.inl c2)), (cu3, Sum.inl (cc3, 4, Sum.inl c3))] := hD
                  have hw_23 : r_22 = (if cDup sx sy sc (v 0) (tV ft nn s1_4) then 1 else 0) := hw
                  by_cases hd_24 : cDup sx sy sc (v 0) (tV ft nn s1_4) = true
                  · skip
                    obtain rfl : r_22 = 1 := by rw [hw_23, if_pos hd_24]
                    refine lv_if_eq (tgt := 132) hx hb dX2_readNumbers_122 (by decide) (fun c_25 => absurd c_25 (by decide)) (fun c_25 => ?_)
                    exact kx_125 nx1_5 (nI tk1_6) (nI s1_4) (nI (tV ft nn s1_4)) g_16 pl (by omega) (by omega) (by rw [← hR, (show nuN i - t = (nuN i - (t + 1)) + 1 by omega), num_dup hw_9.1 hw_9.2.2.1 c_10n rfl hb_13 hi6 (by omega) hd_24]; exact ⟨rfl, rfl⟩) H locs (hP.sub [1, 0, 2, 3, 4, 5] rfl) (hD.sub [1, 0, 2, 3, 4, 5] (by decide) rfl) hS ls (lv_sub hl [0, 3] rfl)
                  · skip
                    obtain rfl : r_22 = 0 := by rw [hw_23, if_neg hd_24]
                    refine lv_if_eq (tgt := 132) hx hb dX2_readNumbers_122 (by decide) (fun c_26 => ?_) (fun c_26 => absurd c_26 (by decide))
                    refine lv_iinc (v := nI (t + 1)) (lv' := [(4, Value.int (nI (t + 1))), (0, Value.ref h0), (1, Value.ref (en i)), (2, Value.ref cu), (3, Value.int (nI pl))]) hx hb dX2_readNumbers_132 hl (k := 4) rfl (nI_add t 1) (by decide) rfl (fun ls hl => ?_)
                    refine lv_goto (tgt := 8) hx hb dX2_readNumbers_135 (by decide) ?_
                    exact ih nx1_5 (nI tk1_6) (nI s1_4) (nI (tV ft nn s1_4)) g_16 pl (t + 1) (upN v t (tV ft nn s1_4)) (by omega) (by omega) hn3 (by omega) (by omega) (by omega) (by omega) hcs (by rw [← hR, (show nuN i - t = (nuN i - (t + 1)) + 1 by omega), num_go hw_9.1 hw_9.2.2.1 c_10n rfl hw_9.2.1 hb_13 (fun q => hd_24 q.2.2), if_neg c_17n]) (fv_up hfv eg_16) (up_le hv9 hvb) (by omega) H locs (hP.sub [1, 0, 2, 3, 4, 5] rfl) (hD.sub [1, 0, 2, 3, 4, 5] (by decide) rfl) hS ls (lv_sub hl [1, 2, 3, 4, 0] rfl)
            · skip
              have c_17n : t = 0 := (nI_eq (by omega) (by omega)).mp c_17
              refine lv_aload_n hx hb dX2_readNumbers_88 rfl (lv_at hl 0 rfl) ?_
              refine va_get (D := D) (ci := 2) (v := Value.int (nI s1_4)) (C := RX2) (T := TX2) (N := 9) hx hb hts inG_X2 hown hK hP 4 rfl rfl 7 (by decide) (hts _ kw_1_63) (fun _ h9 => h9) rfl dX2_readNumbers_89 ?_
              refine lv_istore_n (lv' := [(3, Value.int (nI s1_4)), (0, Value.ref h0), (1, Value.ref (en i)), (2, Value.ref cu), (4, Value.int (nI t))]) hx hb dX2_readNumbers_92 rfl hl (by decide) rfl (fun ls hl => ?_)
              refine lv_aload_n hx hb dX2_readNumbers_93 rfl (lv_at hl 2 rfl) ?_
              refine va_gets hx hb (C := RX5) (n := "STAIR") ((hX).1 6 (by decide)).1 hS hown (hts _ kw_2_197) (fun _ h9 => h9) dX2_readNumbers_94 ?_
              refine x_acmp_ne (tgt := 132) hx hb dX2_readNumbers_97 (by decide) (fun c_27 => ?_) (fun c_27 => ?_)
              · skip
                refine lv_iinc (v := nI (t + 1)) (lv' := [(4, Value.int (nI (t + 1))), (3, Value.int (nI s1_4)), (0, Value.ref h0), (1, Value.ref (en i)), (2, Value.ref cu)]) hx hb dX2_readNumbers_132 hl (k := 4) rfl (nI_add t 1) (by decide) rfl (fun ls hl => ?_)
                refine lv_goto (tgt := 8) hx hb dX2_readNumbers_135 (by decide) ?_
                exact ih nx1_5 (nI tk1_6) (nI s1_4) (nI (tV ft nn s1_4)) g_16 s1_4 (t + 1) (upN v t (tV ft nn s1_4)) (by omega) (by omega) hn3 (by omega) (by omega) (by omega) (by omega) hcs (by rw [← hR, (show nuN i - t = (nuN i - (t + 1)) + 1 by omega), num_go hw_9.1 hw_9.2.2.1 c_10n rfl hw_9.2.1 hb_13 (fun q => c_27 (by rw [q.1])), if_pos c_17n]) (fv_up hfv eg_16) (up_le hv9 hvb) (by omega) H locs (hP.sub [4, 0, 5, 1, 2, 3] rfl) (hD.sub [4, 0, 5, 1, 2, 3] (by decide) rfl) hS ls (lv_sub hl [2, 3, 4, 1, 0] rfl)
              · skip
                have hi6 : i = 6 := x_ne hX hi7 (by decide) c_27
                refine lv_iload hx hb dX2_readNumbers_100 (lv_at hl 4 rfl) ?_
                refine lv_iconst (v := 1) hx hb dX2_readNumbers_102 (by decide) ?_
                refine lv_icmp_ne (tgt := 132) hx hb dX2_readNumbers_103 (by decide) (fun c_28 => ?_) (fun c_28 => ?_)
                · skip
                  have c_28n : ¬ t = 1 := nb_eq (by omega) (by omega) c_28
                  refine lv_iinc (v := nI (t + 1)) (lv' := [(4, Value.int (nI (t + 1))), (3, Value.int (nI s1_4)), (0, Value.ref h0), (1, Value.ref (en i)), (2, Value.ref cu)]) hx hb dX2_readNumbers_132 hl (k := 4) rfl (nI_add t 1) (by decide) rfl (fun ls hl => ?_)
                  refine lv_goto (tgt := 8) hx hb dX2_readNumbers_135 (by decide) ?_
                  exact ih nx1_5 (nI tk1_6) (nI s1_4) (nI (tV ft nn s1_4)) g_16 s1_4 (t + 1) (upN v t (tV ft nn s1_4)) (by omega) (by omega) hn3 (by omega) (by omega) (by omega) (by omega) hcs (by rw [← hR, (show nuN i - t = (nuN i - (t + 1)) + 1 by omega), num_go hw_9.1 hw_9.2.2.1 c_10n rfl hw_9.2.1 hb_13 (fun q => c_28n q.2.1), if_pos c_17n]) (fv_up hfv eg_16) (up_le hv9 hvb) (by omega) H locs (hP.sub [4, 0, 5, 1, 2, 3] rfl) (hD.sub [4, 0, 5, 1, 2, 3] (by decide) rfl) hS ls (lv_sub hl [2, 3, 4, 1, 0] rfl)
                · skip
                  have c_28n : t = 1 := (nI_eq (by omega) (by omega)).mp c_28
                  exfalso; omega
        · skip
          have c_10n : ¬ tk1_6 = 2 := nb_eq (by omega) (by omega) c_10
          exact kx_39 nx1_5 s1_4 (nI tk1_6) vl1_7 fv (by omega) (by omega) (by rw [← hR, (show nuN i - t = (nuN i - (t + 1)) + 1 by omega), num_bad hw_9.1 hw_9.2.2.1 c_10n]; exact ⟨rfl, rfl⟩) H locs (hP.sub [4, 0, 5, 1, 2, 3] rfl) (hD.sub [4, 0, 5, 1, 2, 3] (by decide) rfl) hS ls (lv_sub hl [0] rfl)
set_option maxHeartbeats 4000000 in
set_option maxRecDepth 100000 in
theorem p_readNumbers (l : Launch) (D : va_G) (en : Nat → Nat) (h0 : Nat) (va : Nat) (tx : Nat) (cu : Nat) (cu1 : Nat) (cu2 : Nat) (cu3 : Nat) (cu4 : Nat) (tc : ClassId) (vc : ClassId) (cc2 : ClassId) (cc3 : ClassId) (ft : Nat → Int32) (c2 : Nat → Int32) (c3 : Nat → Int32) (nn : Nat) (sc : Nat) (to : Int32) (sx : Nat → Nat) (sy : Nat → Nat) (i : Nat) (fk : Int32) (fp : Int32) (nx : Nat) (tk : Int32) (st : Int32) (vl : Int32) (fv : Nat → Int32) (hi7 : i < 7) (hnxn : nx ≤ nn) (hn4 : nn ≤ 400) (hsc4 : sc ≤ 4) (hcs : ∀ q, q < sc → c2 q = nI (sx q) ∧ c3 q = nI (sy q) ∧ sx q ≤ 1000 ∧ sy q ≤ 1000) : cI l yX2_readNumbers (.code yX2_readNumbers cX2_readNumbers 5 (some .boolean)) ({ frames := 3, cells := 0, slots := 0, locals := 100 }) D [(vc, .int), (tc, .int), (cc2, .int), (cc3, .int)] [(h0, Sum.inr (2, [Value.int fk, Value.int fp, Value.ref va, Value.ref tx, Value.int (nI nn), Value.int (nI nx), Value.int tk, Value.int st, Value.int vl])), (va, Sum.inl (vc, 3, Sum.inl fv)), (tx, Sum.inl (tc, 400, Sum.inl ft)), (cu, Sum.inr (1, [Value.ref cu1, Value.ref cu2, Value.ref cu3, Value.ref cu4, Value.int (nI sc), Value.int to])), (cu2, Sum.inl (cc2, 4, Sum.inl c2)), (cu3, Sum.inl (cc3, 4, Sum.inl c3))] (xN en) [Value.ref h0, Value.ref (en i), Value.ref cu] (S := Int32 × Int32 × Nat × Int32 × Int32 × Int32 × (Nat → Int32)) (fun r u => match u with | (fk1, fp1, nx1, tk1, st1, vl1, fv1) => nx ≤ nx1 ∧ nx1 ≤ nn ∧ ((r = 1 ∧ (numsF ft nn i (cDup sx sy sc) (nuN i) 0 nx nx (fun _ => 0)).1 = 0 ∧ (numsF ft nn i (cDup sx sy sc) (nuN i) 0 nx nx (fun _ => 0)).2.2.1 = nx1 ∧ (∀ q, q < nuN i → fv1 q = nI ((numsF ft nn i (cDup sx sy sc) (nuN i) 0 nx nx (fun _ => 0)).2.2.2 q)) ∧ (∀ q, (numsF ft nn i (cDup sx sy sc) (nuN i) 0 nx nx (fun _ => 0)).2.2.2 q ≤ 1000) ∧ fk1 = fk ∧ fp1 = fp) ∨ (r = 0 ∧ ¬ (numsF ft nn i (cDup sx sy sc) (nuN i) 0 nx nx (fun _ => 0)).1 = 0 ∧ fk1 = nI (numsF ft nn i (cDup sx sy sc) (nuN i) 0 nx nx (fun _ => 0)).1 ∧ fp1 = nI (numsF ft nn i (cDup sx sy sc) (nuN i) 0 nx nx (fun _ => 0)).2.1))) (fun u => match u with | (fk1, fp1, nx1, tk1, st1, vl1, fv1) => []) (fun u => match u with | (fk1, fp1, nx1, tk1, st1, vl1, fv1) => [(h0, Sum.inr (2, [Value.int fk1, Value.int fp1, Value.ref va, Value.ref tx, Value.int (nI nn), Value.int (nI nx1), Value.int tk1, Value.int st1, Value.int vl1])), (va, Sum.inl (vc, 3, Sum.inl fv1)), (tx, Sum.inl (tc, 400, Sum.inl ft)), (cu, Sum.inr (1, [Value.ref cu1, Value.ref cu2, Value.ref cu3, Value.ref cu4, Value.int (nI sc), Value.int to])), (cu2, Sum.inl (cc2, 4, Sum.inl c2)), (cu3, Sum.inl (cc3, 4, Sum.inl c3))]) := by
  intro sz
  refine Met.ofW (cc := cX2_readNumbers) (maxL := 5) (ret := (some .boolean)) (by decide) rfl ?_
  intro p e s m args below meth c s₁ B hml hv
  obtain ⟨rfl, hsz, hP, hK, hD0, hX⟩ := hv
  have hx := B.exec
  have hb := B.bytes
  have hr := B.returns
  have hts0 := atoms_spec (ws := .code yX2_readNumbers cX2_readNumbers 5 (some .boolean) :: gw) B.pre
  have hts := fun (w : Cond) (h : w ∈ gw) => hts0 w (List.mem_cons_of_mem _ h)
  have hown : s.vm.findClass RX2 = some m.cls := findClass_of_methodNamed B.named
  have hlocks := B.notSynchronized
  have F : mFix p s m _ c cX2_readNumbers 5 RX2 := ⟨hx, hb, hml, hown, hts⟩
  subst hsz
  have hD := hD0.self (sz := s.heap.size)
  generalize hAe : va_A [(h0, Sum.inr (2, [Value.int fk, Value.int fp, Value.ref va, Value.ref tx, Value.int (nI nn), Value.int (nI nx), Value.int tk, Value.int st, Value.int vl])), (va, Sum.inl (vc, 3, Sum.inl fv)), (tx, Sum.inl (tc, 400, Sum.inl ft)), (cu, Sum.inr (1, [Value.ref cu1, Value.ref cu2, Value.ref cu3, Value.ref cu4, Value.int (nI sc), Value.int to])), (cu2, Sum.inl (cc2, 4, Sum.inl c2)), (cu3, Sum.inl (cc3, 4, Sum.inl c3))] s.heap.size = A at hD hX ⊢
  have hA : ∀ q : Nat, s.heap.size ≤ q → A q := fun q h => by rw [← hAe]; exact Or.inr h
  have hS : va_S A s.heap s.heap [] := va_S.rf
  have hl := lv_entry ([Value.ref h0, Value.ref (en i), Value.ref cu]) (n := 5) (Nat.le_of_ble_eq_true rfl)
  rw [lg_entry_eq]
  generalize (lg_sl ([Value.ref h0, Value.ref (en i), Value.ref cu]) ++ List.replicate (5 - (lg_sl ([Value.ref h0, Value.ref (en i), Value.ref cu])).length) Slot.unset).toArray = ls at hl ⊢
  have hl : lv_has ls 5 [(0, Value.ref h0), (1, Value.ref (en i)), (2, Value.ref cu)] := hl
  have hP : va_P D vwCl [(h0, Sum.inr (2, [Value.int fk, Value.int fp, Value.ref va, Value.ref tx, Value.int (nI nn), Value.int (nI nx), Value.int tk, Value.int st, Value.int vl])), (va, Sum.inl (vc, 3, Sum.inl fv)), (tx, Sum.inl (tc, 400, Sum.inl ft)), (cu, Sum.inr (1, [Value.ref cu1, Value.ref cu2, Value.ref cu3, Value.ref cu4, Value.int (nI sc), Value.int to])), (cu2, Sum.inl (cc2, 4, Sum.inl c2)), (cu3, Sum.inl (cc3, 4, Sum.inl c3))] s.heap := hP
  refine lv_aload_n hx hb dX2_readNumbers_0 rfl (lv_at hl 0 rfl) ?_
  refine va_get (D := D) (ci := 2) (v := Value.int (nI nx)) (C := RX2) (T := TX2) (N := 9) hx hb hts inG_X2 hown hK hP 0 rfl rfl 5 (by decide) (hts _ kw_1_61) (fun _ h9 => h9) rfl dX2_readNumbers_1 ?_
  refine lv_istore_n (lv' := [(3, Value.int (nI nx)), (0, Value.ref h0), (1, Value.ref (en i)), (2, Value.ref cu)]) hx hb dX2_readNumbers_4 rfl hl (by decide) rfl (fun ls hl => ?_)
  refine lv_iconst (v := 0) hx hb dX2_readNumbers_5 (by decide) ?_
  refine lv_istore (lv' := [(4, Value.int 0), (3, Value.int (nI nx)), (0, Value.ref h0), (1, Value.ref (en i)), (2, Value.ref cu)]) hx hb dX2_readNumbers_6 hl (by decide) rfl (fun ls hl => ?_)
  refine lp_p_readNumbers F hA en h0 va tx cu cu1 cu2 cu3 cu4 tc vc cc2 cc3 ft c2 c3 nn sc to sx sy i fk fp nx (numsF ft nn i (cDup sx sy sc) (nuN i) 0 nx nx (fun _ => 0)) (hK.sub [0, 1, 2, 3] rfl) hX (fun nx_1 s1_2 tk_3 vl_4 fv_5 h_6 h_7 h_8 H locs hP hD hS ls hl => ?_) (fun nx_9 s1_10 tk_11 vl_12 fv_13 h_14 h_15 h_16 H locs hP hD hS ls hl => ?_) (fun nx_17 tk_18 st_19 vl_20 fv_21 pl_22 h_23 h_24 h_25 H locs hP hD hS ls hl => ?_) (fun nx_26 tk_27 st_28 vl_29 fv_30 v_31 h_32 h_33 h_34 h_35 h_36 H locs hP hD hS ls hl => ?_) _ nx tk st vl fv nx 0 (fun _ => 0) (by omega) (by omega) (nuN_le i hi7) (by omega) (by omega) (by omega) (by omega) hcs rfl (fun q hq => absurd hq (Nat.not_lt_zero q)) (fun _ => by omega) (Nat.lt_succ_self _) _ _ (hP.sub [0, 1, 2, 3, 4, 5] rfl) (hD.sub [0, 1, 2, 3, 4, 5] (by decide) rfl) hS ls (lv_sub hl [2, 3, 4, 1, 0] rfl)
  · skip
    have h_6 : nx_1 ≤ nn := h_6
    have h_7 : nx ≤ nx_1 := h_7
    have h_8 : (numsF ft nn i (cDup sx sy sc) (nuN i) 0 nx nx (fun _ => 0)).1 = 1 ∧ (numsF ft nn i (cDup sx sy sc) (nuN i) 0 nx nx (fun _ => 0)).2.1 = s1_2 := h_8
    refine lv_aload_n hx hb dX2_readNumbers_39 rfl (lv_at hl 0 rfl) ?_
    refine lv_iconst (v := 1) hx hb dX2_readNumbers_40 (by decide) ?_
    refine lv_aload_n hx hb dX2_readNumbers_41 rfl (lv_at hl 0 rfl) ?_
    refine va_get (D := D) (ci := 2) (v := Value.int (nI s1_2)) (C := RX2) (T := TX2) (N := 9) hx hb hts inG_X2 hown hK hP 0 rfl rfl 7 (by decide) (hts _ kw_1_63) (fun _ h9 => h9) rfl dX2_readNumbers_42 ?_
    refine mc_Vi (rest := []) (wr := [(va, Sum.inl (vc, 3, Sum.inl fv_5)), (tx, Sum.inl (tc, 400, Sum.inl ft)), (cu, Sum.inr (1, [Value.ref cu1, Value.ref cu2, Value.ref cu3, Value.ref cu4, Value.int (nI sc), Value.int to])), (cu2, Sum.inl (cc2, 4, Sum.inl c2)), (cu3, Sum.inl (cc3, 4, Sum.inl c3))]) F hK hP hD hS hA (c_refuse l D h0 va tx fk fp (nI nn) (nI nx_1) tk_3 (nI s1_2) vl_4 1 (nI s1_2) ) ⟨gk_X2_53.1, gk_X2_53.2, Nat.le_of_ble_eq_true rfl, Nat.le_of_ble_eq_true rfl⟩ [0] [1, 2, 3, 4, 5] [] ⟨rfl, rfl, rfl, rfl, by decide⟩ rfl xT_move (fun _ _ _ => trivial) 0 rfl rfl rfl hl.1 rfl (Nat.le_of_ble_eq_true rfl) dX2_readNumbers_45 ⟨Nat.le_of_ble_eq_true rfl, Nat.le_of_ble_eq_true rfl⟩ (fun r_37 _ H locs hw hK1 hP hD hS => ?_)
    have hP : va_P D vwCl [(va, Sum.inl (vc, 3, Sum.inl fv_5)), (tx, Sum.inl (tc, 400, Sum.inl ft)), (cu, Sum.inr (1, [Value.ref cu1, Value.ref cu2, Value.ref cu3, Value.ref cu4, Value.int (nI sc), Value.int to])), (cu2, Sum.inl (cc2, 4, Sum.inl c2)), (cu3, Sum.inl (cc3, 4, Sum.inl c3)), (h0, Sum.inr (2, [Value.int 1, Value.int (nI s1_2), Value.ref va, Value.ref tx, Value.int (nI nn), Value.int (nI nx_1), Value.int tk_3, Value.int (nI s1_2), Value.int vl_4]))] H := hP
    have hD : va_D A [(va, Sum.inl (vc, 3, Sum.inl fv_5)), (tx, Sum.inl (tc, 400, Sum.inl ft)), (cu, Sum.inr (1, [Value.ref cu1, Value.ref cu2, Value.ref cu3, Value.ref cu4, Value.int (nI sc), Value.int to])), (cu2, Sum.inl (cc2, 4, Sum.inl c2)), (cu3, Sum.inl (cc3, 4, Sum.inl c3)), (h0, Sum.inr (2, [Value.int 1, Value.int (nI s1_2), Value.ref va, Value.ref tx, Value.int (nI nn), Value.int (nI nx_1), Value.int tk_3, Value.int (nI s1_2), Value.int vl_4]))] := hD
    have hw_38 : r_37 = 0 := hw
    obtain rfl : r_37 = 0 := hw_38
    have hP9 := hP.sub (ws' := [(h0, Sum.inr (2, [Value.int 1, Value.int (nI s1_2), Value.ref va, Value.ref tx, Value.int (nI nn), Value.int (nI nx_1), Value.int tk_3, Value.int (nI s1_2), Value.int vl_4])), (va, Sum.inl (vc, 3, Sum.inl fv_5)), (tx, Sum.inl (tc, 400, Sum.inl ft)), (cu, Sum.inr (1, [Value.ref cu1, Value.ref cu2, Value.ref cu3, Value.ref cu4, Value.int (nI sc), Value.int to])), (cu2, Sum.inl (cc2, 4, Sum.inl c2)), (cu3, Sum.inl (cc3, 4, Sum.inl c3))]) [5, 0, 1, 2, 3, 4] rfl
    have hD9 := hD.sub (ws' := [(h0, Sum.inr (2, [Value.int 1, Value.int (nI s1_2), Value.ref va, Value.ref tx, Value.int (nI nn), Value.int (nI nx_1), Value.int tk_3, Value.int (nI s1_2), Value.int vl_4])), (va, Sum.inl (vc, 3, Sum.inl fv_5)), (tx, Sum.inl (tc, 400, Sum.inl ft)), (cu, Sum.inr (1, [Value.ref cu1, Value.ref cu2, Value.ref cu3, Value.ref cu4, Value.int (nI sc), Value.int to])), (cu2, Sum.inl (cc2, 4, Sum.inl c2)), (cu3, Sum.inl (cc3, 4, Sum.inl c3))]) [5, 0, 1, 2, 3, 4] (by decide) rfl
    have hK9 := hK.sub (tys' := []) [] rfl
    refine W.widen (k := 0) (n := 0) (by decide) (by decide) ?_
    exact W.zret (v := 0) hx hb hr rfl (fun t ht hW => ⟨⟨0, (1, nI s1_2, nx_1, tk_3, nI s1_2, vl_4, fv_5), rfl, ⟨by omega, by omega, Or.inr ⟨rfl, by rw [h_8.1]; decide, by rw [h_8.1]; rfl, by rw [h_8.2]⟩⟩, by rw [ht]; exact hP9, va_K.moved hW.alike hK9, hD9⟩, hS.F ht⟩) hS.2.2 dX2_readNumbers_48
  · skip
    have h_14 : nx_9 ≤ nn := h_14
    have h_15 : nx ≤ nx_9 := h_15
    have h_16 : (numsF ft nn i (cDup sx sy sc) (nuN i) 0 nx nx (fun _ => 0)).1 = 2 ∧ (numsF ft nn i (cDup sx sy sc) (nuN i) 0 nx nx (fun _ => 0)).2.1 = s1_10 := h_16
    refine lv_aload_n hx hb dX2_readNumbers_62 rfl (lv_at hl 0 rfl) ?_
    refine lv_iconst (v := 2) hx hb dX2_readNumbers_63 (by decide) ?_
    refine lv_aload_n hx hb dX2_readNumbers_64 rfl (lv_at hl 0 rfl) ?_
    refine va_get (D := D) (ci := 2) (v := Value.int (nI s1_10)) (C := RX2) (T := TX2) (N := 9) hx hb hts inG_X2 hown hK hP 0 rfl rfl 7 (by decide) (hts _ kw_1_63) (fun _ h9 => h9) rfl dX2_readNumbers_65 ?_
    refine mc_Vi (rest := []) (wr := [(va, Sum.inl (vc, 3, Sum.inl fv_13)), (tx, Sum.inl (tc, 400, Sum.inl ft)), (cu, Sum.inr (1, [Value.ref cu1, Value.ref cu2, Value.ref cu3, Value.ref cu4, Value.int (nI sc), Value.int to])), (cu2, Sum.inl (cc2, 4, Sum.inl c2)), (cu3, Sum.inl (cc3, 4, Sum.inl c3))]) F hK hP hD hS hA (c_refuse l D h0 va tx fk fp (nI nn) (nI nx_9) tk_11 (nI s1_10) vl_12 2 (nI s1_10) ) ⟨gk_X2_53.1, gk_X2_53.2, Nat.le_of_ble_eq_true rfl, Nat.le_of_ble_eq_true rfl⟩ [0] [1, 2, 3, 4, 5] [] ⟨rfl, rfl, rfl, rfl, by decide⟩ rfl xT_move (fun _ _ _ => trivial) 0 rfl rfl rfl hl.1 rfl (Nat.le_of_ble_eq_true rfl) dX2_readNumbers_68 ⟨Nat.le_of_ble_eq_true rfl, Nat.le_of_ble_eq_true rfl⟩ (fun r_39 _ H locs hw hK1 hP hD hS => ?_)
    have hP : va_P D vwCl [(va, Sum.inl (vc, 3, Sum.inl fv_13)), (tx, Sum.inl (tc, 400, Sum.inl ft)), (cu, Sum.inr (1, [Value.ref cu1, Value.ref cu2, Value.ref cu3, Value.ref cu4, Value.int (nI sc), Value.int to])), (cu2, Sum.inl (cc2, 4, Sum.inl c2)), (cu3, Sum.inl (cc3, 4, Sum.inl c3)), (h0, Sum.inr (2, [Value.int 2, Value.int (nI s1_10), Value.ref va, Value.ref tx, Value.int (nI nn), Value.int (nI nx_9), Value.int tk_11, Value.int (nI s1_10), Value.int vl_12]))] H := hP
    have hD : va_D A [(va, Sum.inl (vc, 3, Sum.inl fv_13)), (tx, Sum.inl (tc, 400, Sum.inl ft)), (cu, Sum.inr (1, [Value.ref cu1, Value.ref cu2, Value.ref cu3, Value.ref cu4, Value.int (nI sc), Value.int to])), (cu2, Sum.inl (cc2, 4, Sum.inl c2)), (cu3, Sum.inl (cc3, 4, Sum.inl c3)), (h0, Sum.inr (2, [Value.int 2, Value.int (nI s1_10), Value.ref va, Value.ref tx, Value.int (nI nn), Value.int (nI nx_9), Value.int tk_11, Value.int (nI s1_10), Value.int vl_12]))] := hD
    have hw_40 : r_39 = 0 := hw
    obtain rfl : r_39 = 0 := hw_40
    have hP9 := hP.sub (ws' := [(h0, Sum.inr (2, [Value.int 2, Value.int (nI s1_10), Value.ref va, Value.ref tx, Value.int (nI nn), Value.int (nI nx_9), Value.int tk_11, Value.int (nI s1_10), Value.int vl_12])), (va, Sum.inl (vc, 3, Sum.inl fv_13)), (tx, Sum.inl (tc, 400, Sum.inl ft)), (cu, Sum.inr (1, [Value.ref cu1, Value.ref cu2, Value.ref cu3, Value.ref cu4, Value.int (nI sc), Value.int to])), (cu2, Sum.inl (cc2, 4, Sum.inl c2)), (cu3, Sum.inl (cc3, 4, Sum.inl c3))]) [5, 0, 1, 2, 3, 4] rfl
    have hD9 := hD.sub (ws' := [(h0, Sum.inr (2, [Value.int 2, Value.int (nI s1_10), Value.ref va, Value.ref tx, Value.int (nI nn), Value.int (nI nx_9), Value.int tk_11, Value.int (nI s1_10), Value.int vl_12])), (va, Sum.inl (vc, 3, Sum.inl fv_13)), (tx, Sum.inl (tc, 400, Sum.inl ft)), (cu, Sum.inr (1, [Value.ref cu1, Value.ref cu2, Value.ref cu3, Value.ref cu4, Value.int (nI sc), Value.int to])), (cu2, Sum.inl (cc2, 4, Sum.inl c2)), (cu3, Sum.inl (cc3, 4, Sum.inl c3))]) [5, 0, 1, 2, 3, 4] (by decide) rfl
    have hK9 := hK.sub (tys' := []) [] rfl
    refine W.widen (k := 0) (n := 0) (by decide) (by decide) ?_
    exact W.zret (v := 0) hx hb hr rfl (fun t ht hW => ⟨⟨0, (2, nI s1_10, nx_9, tk_11, nI s1_10, vl_12, fv_13), rfl, ⟨by omega, by omega, Or.inr ⟨rfl, by rw [h_16.1]; decide, by rw [h_16.1]; rfl, by rw [h_16.2]⟩⟩, by rw [ht]; exact hP9, va_K.moved hW.alike hK9, hD9⟩, hS.F ht⟩) hS.2.2 dX2_readNumbers_71
  · skip
    have h_23 : nx_17 ≤ nn := h_23
    have h_24 : nx ≤ nx_17 := h_24
    have h_25 : (numsF ft nn i (cDup sx sy sc) (nuN i) 0 nx nx (fun _ => 0)).1 = 3 ∧ (numsF ft nn i (cDup sx sy sc) (nuN i) 0 nx nx (fun _ => 0)).2.1 = pl_22 := h_25
    refine lv_aload_n hx hb dX2_readNumbers_125 rfl (lv_at hl 0 rfl) ?_
    refine lv_iconst (v := 3) hx hb dX2_readNumbers_126 (by decide) ?_
    refine lv_iload_n hx hb dX2_readNumbers_127 rfl (lv_at hl 1 rfl) ?_
    refine mc_Vi (rest := []) (wr := [(va, Sum.inl (vc, 3, Sum.inl fv_21)), (tx, Sum.inl (tc, 400, Sum.inl ft)), (cu, Sum.inr (1, [Value.ref cu1, Value.ref cu2, Value.ref cu3, Value.ref cu4, Value.int (nI sc), Value.int to])), (cu2, Sum.inl (cc2, 4, Sum.inl c2)), (cu3, Sum.inl (cc3, 4, Sum.inl c3))]) F hK hP hD hS hA (c_refuse l D h0 va tx fk fp (nI nn) (nI nx_17) tk_18 st_19 vl_20 3 (nI pl_22) ) ⟨gk_X2_53.1, gk_X2_53.2, Nat.le_of_ble_eq_true rfl, Nat.le_of_ble_eq_true rfl⟩ [0] [1, 2, 3, 4, 5] [] ⟨rfl, rfl, rfl, rfl, by decide⟩ rfl xT_move (fun _ _ _ => trivial) 0 rfl rfl rfl hl.1 rfl (Nat.le_of_ble_eq_true rfl) dX2_readNumbers_128 ⟨Nat.le_of_ble_eq_true rfl, Nat.le_of_ble_eq_true rfl⟩ (fun r_41 _ H locs hw hK1 hP hD hS => ?_)
    have hP : va_P D vwCl [(va, Sum.inl (vc, 3, Sum.inl fv_21)), (tx, Sum.inl (tc, 400, Sum.inl ft)), (cu, Sum.inr (1, [Value.ref cu1, Value.ref cu2, Value.ref cu3, Value.ref cu4, Value.int (nI sc), Value.int to])), (cu2, Sum.inl (cc2, 4, Sum.inl c2)), (cu3, Sum.inl (cc3, 4, Sum.inl c3)), (h0, Sum.inr (2, [Value.int 3, Value.int (nI pl_22), Value.ref va, Value.ref tx, Value.int (nI nn), Value.int (nI nx_17), Value.int tk_18, Value.int st_19, Value.int vl_20]))] H := hP
    have hD : va_D A [(va, Sum.inl (vc, 3, Sum.inl fv_21)), (tx, Sum.inl (tc, 400, Sum.inl ft)), (cu, Sum.inr (1, [Value.ref cu1, Value.ref cu2, Value.ref cu3, Value.ref cu4, Value.int (nI sc), Value.int to])), (cu2, Sum.inl (cc2, 4, Sum.inl c2)), (cu3, Sum.inl (cc3, 4, Sum.inl c3)), (h0, Sum.inr (2, [Value.int 3, Value.int (nI pl_22), Value.ref va, Value.ref tx, Value.int (nI nn), Value.int (nI nx_17), Value.int tk_18, Value.int st_19, Value.int vl_20]))] := hD
    have hw_42 : r_41 = 0 := hw
    obtain rfl : r_41 = 0 := hw_42
    have hP9 := hP.sub (ws' := [(h0, Sum.inr (2, [Value.int 3, Value.int (nI pl_22), Value.ref va, Value.ref tx, Value.int (nI nn), Value.int (nI nx_17), Value.int tk_18, Value.int st_19, Value.int vl_20])), (va, Sum.inl (vc, 3, Sum.inl fv_21)), (tx, Sum.inl (tc, 400, Sum.inl ft)), (cu, Sum.inr (1, [Value.ref cu1, Value.ref cu2, Value.ref cu3, Value.ref cu4, Value.int (nI sc), Value.int to])), (cu2, Sum.inl (cc2, 4, Sum.inl c2)), (cu3, Sum.inl (cc3, 4, Sum.inl c3))]) [5, 0, 1, 2, 3, 4] rfl
    have hD9 := hD.sub (ws' := [(h0, Sum.inr (2, [Value.int 3, Value.int (nI pl_22), Value.ref va, Value.ref tx, Value.int (nI nn), Value.int (nI nx_17), Value.int tk_18, Value.int st_19, Value.int vl_20])), (va, Sum.inl (vc, 3, Sum.inl fv_21)), (tx, Sum.inl (tc, 400, Sum.inl ft)), (cu, Sum.inr (1, [Value.ref cu1, Value.ref cu2, Value.ref cu3, Value.ref cu4, Value.int (nI sc), Value.int to])), (cu2, Sum.inl (cc2, 4, Sum.inl c2)), (cu3, Sum.inl (cc3, 4, Sum.inl c3))]) [5, 0, 1, 2, 3, 4] (by decide) rfl
    have hK9 := hK.sub (tys' := []) [] rfl
    refine W.widen (k := 0) (n := 0) (by decide) (by decide) ?_
    exact W.zret (v := 0) hx hb hr rfl (fun t ht hW => ⟨⟨0, (3, nI pl_22, nx_17, tk_18, st_19, vl_20, fv_21), rfl, ⟨by omega, by omega, Or.inr ⟨rfl, by rw [h_25.1]; decide, by rw [h_25.1]; rfl, by rw [h_25.2]⟩⟩, by rw [ht]; exact hP9, va_K.moved hW.alike hK9, hD9⟩, hS.F ht⟩) hS.2.2 dX2_readNumbers_131
  · skip
    have h_32 : nx_26 ≤ nn := h_32
    have h_33 : nx ≤ nx_26 := h_33
    have h_34 : (numsF ft nn i (cDup sx sy sc) (nuN i) 0 nx nx (fun _ => 0)) = (0, 0, nx_26, v_31) := h_34
    have h_35 : ∀ q, q < nuN i → fv_30 q = nI (v_31 q) := h_35
    have h_36 : ∀ q, v_31 q ≤ 1000 := h_36
    refine lv_iconst (v := 1) hx hb dX2_readNumbers_138 (by decide) ?_
    have hP9 := hP.sub (ws' := [(h0, Sum.inr (2, [Value.int fk, Value.int fp, Value.ref va, Value.ref tx, Value.int (nI nn), Value.int (nI nx_26), Value.int tk_27, Value.int st_28, Value.int vl_29])), (va, Sum.inl (vc, 3, Sum.inl fv_30)), (tx, Sum.inl (tc, 400, Sum.inl ft)), (cu, Sum.inr (1, [Value.ref cu1, Value.ref cu2, Value.ref cu3, Value.ref cu4, Value.int (nI sc), Value.int to])), (cu2, Sum.inl (cc2, 4, Sum.inl c2)), (cu3, Sum.inl (cc3, 4, Sum.inl c3))]) [0, 1, 2, 3, 4, 5] rfl
    have hD9 := hD.sub (ws' := [(h0, Sum.inr (2, [Value.int fk, Value.int fp, Value.ref va, Value.ref tx, Value.int (nI nn), Value.int (nI nx_26), Value.int tk_27, Value.int st_28, Value.int vl_29])), (va, Sum.inl (vc, 3, Sum.inl fv_30)), (tx, Sum.inl (tc, 400, Sum.inl ft)), (cu, Sum.inr (1, [Value.ref cu1, Value.ref cu2, Value.ref cu3, Value.ref cu4, Value.int (nI sc), Value.int to])), (cu2, Sum.inl (cc2, 4, Sum.inl c2)), (cu3, Sum.inl (cc3, 4, Sum.inl c3))]) [0, 1, 2, 3, 4, 5] (by decide) rfl
    have hK9 := hK.sub (tys' := []) [] rfl
    refine W.widen (k := 0) (n := 0) (by decide) (by decide) ?_
    exact W.zret (v := 1) hx hb hr rfl (fun t ht hW => ⟨⟨1, (fk, fp, nx_26, tk_27, st_28, vl_29, fv_30), rfl, ⟨by omega, by omega, Or.inl ⟨rfl, by rw [h_34], by rw [h_34], by rw [h_34]; exact h_35, by rw [h_34]; exact h_36, rfl, rfl⟩⟩, by rw [ht]; exact hP9, va_K.moved hW.alike hK9, hD9⟩, hS.F ht⟩) hS.2.2 dX2_readNumbers_139
