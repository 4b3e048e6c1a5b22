set_option maxHeartbeats 4000000 in
set_option maxRecDepth 100000 in
theorem lp_readNumbers {p : Program} {l : Launch} {e : Env} {s : State} {m : MethodId} {args : Array Value} {below : List Frame} {meth : Method} {c : Code} {Q : State → Prop} {A : Nat → Prop} {D : va_G} (F : mFix p s m args c cX2_readNumbers 5 RX2) (hA : ∀ q, s.heap.size ≤ q → A q) (en : Nat → Nat) (h0 : Nat) (va : Nat) (tx : Nat) (cu : Nat) (cu1 : Nat) (cu2 : Nat) (cu3 : Nat) (cu4 : Nat) (tc : ClassId) (vc : ClassId) (cc2 : ClassId) (cc3 : ClassId) (ft : Nat → Int32) (c2 : Nat → Int32) (c3 : Nat → Int32) (sc : Int32) (to : Int32) (ln : Int32) (i : Nat) (fk : Int32) (fp : Int32) (hK : va_K D vwCl [(vc, .int), (tc, .int), (cc2, .int), (cc3, .int)] s) (hX : (xN en) A s)
    (kx_39 : ∀ (nx : Int32) (tk : Int32) (st : Int32) (vl : Int32) (fv : Nat → Int32), ∀ (H : Heap) (locs : List Loc), va_P D vwCl [(h0, .inr (2, [.int fk, .int fp, .ref va, .ref tx, .int ln, .int nx, .int tk, .int st, .int vl])), (va, .inl (vc, 3, .inl fv)), (tx, .inl (tc, 400, .inl ft)), (cu, .inr (1, [.ref cu1, .ref cu2, .ref cu3, .ref cu4, .int sc, .int to])), (cu2, .inl (cc2, 4, .inl c2)), (cu3, .inl (cc3, 4, .inl c3))] H → va_D A [(h0, .inr (2, [.int fk, .int fp, .ref va, .ref tx, .int ln, .int nx, .int tk, .int st, .int vl])), (va, .inl (vc, 3, .inl fv)), (tx, .inl (tc, 400, .inl ft)), (cu, .inr (1, [.ref cu1, .ref cu2, .ref cu3, .ref cu4, .int sc, .int to])), (cu2, .inl (cc2, 4, .inl c2)), (cu3, .inl (cc3, 4, .inl c3))] → va_S A s.heap H locs → ∀ ls : Array Slot, lv_has ls 5 [(0, .ref h0)] → W p l e ({ frames := 3, cells := 0, slots := 0, locals := 100 }) s m args below meth c H locs 0 0 Q (F0 m 39 ls []))
    (kx_62 : ∀ (nx : Int32) (tk : Int32) (st : Int32) (vl : Int32) (fv : Nat → Int32), ∀ (H : Heap) (locs : List Loc), va_P D vwCl [(h0, .inr (2, [.int fk, .int fp, .ref va, .ref tx, .int ln, .int nx, .int tk, .int st, .int vl])), (va, .inl (vc, 3, .inl fv)), (tx, .inl (tc, 400, .inl ft)), (cu, .inr (1, [.ref cu1, .ref cu2, .ref cu3, .ref cu4, .int sc, .int to])), (cu2, .inl (cc2, 4, .inl c2)), (cu3, .inl (cc3, 4, .inl c3))] H → va_D A [(h0, .inr (2, [.int fk, .int fp, .ref va, .ref tx, .int ln, .int nx, .int tk, .int st, .int vl])), (va, .inl (vc, 3, .inl fv)), (tx, .inl (tc, 400, .inl ft)), (cu, .inr (1, [.ref cu1, .ref cu2, .ref cu3, .ref cu4, .int sc, .int to])), (cu2, .inl (cc2, 4, .inl c2)), (cu3, .inl (cc3, 4, .inl c3))] → va_S A s.heap H locs → ∀ ls : Array Slot, lv_has ls 5 [(0, .ref h0)] → W p l e ({ frames := 3, cells := 0, slots := 0, locals := 100 }) s m args below meth c H locs 0 0 Q (F0 m 62 ls []))
    (kx_125 : ∀ (nx : Int32) (tk : Int32) (st : Int32) (vl : Int32) (fv : Nat → Int32) (pl : Int32), ∀ (H : Heap) (locs : List Loc), va_P D vwCl [(h0, .inr (2, [.int fk, .int fp, .ref va, .ref tx, .int ln, .int nx, .int tk, .int st, .int vl])), (va, .inl (vc, 3, .inl fv)), (tx, .inl (tc, 400, .inl ft)), (cu, .inr (1, [.ref cu1, .ref cu2, .ref cu3, .ref cu4, .int sc, .int to])), (cu2, .inl (cc2, 4, .inl c2)), (cu3, .inl (cc3, 4, .inl c3))] H → va_D A [(h0, .inr (2, [.int fk, .int fp, .ref va, .ref tx, .int ln, .int nx, .int tk, .int st, .int vl])), (va, .inl (vc, 3, .inl fv)), (tx, .inl (tc, 400, .inl ft)), (cu, .inr (1, [.ref cu1, .ref cu2, .ref cu3, .ref cu4, .int sc, .int to])), (cu2, .inl (cc2, 4, .inl c2)), (cu3, .inl (cc3, 4, .inl c3))] → va_S A s.heap H locs → ∀ ls : Array Slot, lv_has ls 5 [(0, .ref h0), (3, .int pl)] → W p l e ({ frames := 3, cells := 0, slots := 0, locals := 100 }) s m args below meth c H locs 0 0 Q (F0 m 125 ls []))
    (kx_138 : ∀ (nx : Int32) (tk : Int32) (st : Int32) (vl : Int32) (fv : Nat → Int32), ∀ (H : Heap) (locs : List Loc), va_P D vwCl [(h0, .inr (2, [.int fk, .int fp, .ref va, .ref tx, .int ln, .int nx, .int tk, .int st, .int vl])), (va, .inl (vc, 3, .inl fv)), (tx, .inl (tc, 400, .inl ft)), (cu, .inr (1, [.ref cu1, .ref cu2, .ref cu3, .ref cu4, .int sc, .int to])), (cu2, .inl (cc2, 4, .inl c2)), (cu3, .inl (cc3, 4, .inl c3))] H → va_D A [(h0, .inr (2, [.int fk, .int fp, .ref va, .ref tx, .int ln, .int nx, .int tk, .int st, .int vl])), (va, .inl (vc, 3, .inl fv)), (tx, .inl (tc, 400, .inl ft)), (cu, .inr (1, [.ref cu1, .ref cu2, .ref cu3, .ref cu4, .int sc, .int to])), (cu2, .inl (cc2, 4, .inl c2)), (cu3, .inl (cc3, 4, .inl c3))] → va_S A s.heap H locs → ∀ ls : Array Slot, lv_has ls 5 [] → W p l e ({ frames := 3, cells := 0, slots := 0, locals := 100 }) s m args below meth c H locs 0 0 Q (F0 m 138 ls [])) :
    ∀ n : Nat, ∀ (nx : Int32) (tk : Int32) (st : Int32) (vl : Int32) (fv : Nat → Int32) (pl : Int32) (t : Nat), (t ≤ 3) → (i < 7) → (nuN i ≤ 3) → (3 - t) < n → ∀ (H : Heap) (locs : List Loc), va_P D vwCl [(h0, .inr (2, [.int fk, .int fp, .ref va, .ref tx, .int ln, .int nx, .int tk, .int st, .int vl])), (va, .inl (vc, 3, .inl fv)), (tx, .inl (tc, 400, .inl ft)), (cu, .inr (1, [.ref cu1, .ref cu2, .ref cu3, .ref cu4, .int sc, .int to])), (cu2, .inl (cc2, 4, .inl c2)), (cu3, .inl (cc3, 4, .inl c3))] H → va_D A [(h0, .inr (2, [.int fk, .int fp, .ref va, .ref tx, .int ln, .int nx, .int tk, .int st, .int vl])), (va, .inl (vc, 3, .inl fv)), (tx, .inl (tc, 400, .inl ft)), (cu, .inr (1, [.ref cu1, .ref cu2, .ref cu3, .ref cu4, .int sc, .int to])), (cu2, .inl (cc2, 4, .inl c2)), (cu3, .inl (cc3, 4, .inl c3))] → va_S A s.heap H locs → ∀ ls : Array Slot, lv_has ls 5 [(0, .ref h0), (1, .ref (en i)), (2, .ref cu), (3, .int pl), (4, .int (nI t))] → W p l e ({ frames := 3, cells := 0, slots := 0, locals := 100 }) s m args below meth c H locs 0 0 Q (F0 m 8 ls []) := by
  intro n
  induction n with
  | zero => intro nx tk st vl fv pl t ht hi7 hn3 hn; exact absurd hn (Nat.not_lt_zero _)
  | succ n ih =>
    intro nx tk st vl fv pl t ht hi7 hn3 hn H locs hP hD hS ls hl
    obtain ⟨hx, hb, hml, hown, hts⟩ := id F
    refine lv_iload hx hb dX2_readNumbers_8 (lv_at hl 4 rfl) ?_
    refine lv_aload_n hx hb dX2_readNumbers_10 rfl (lv_at hl 1 rfl) ?_
    refine x_getE hx hb (i := i) hX (by omega) hS hown (q := (RX5, "numbers", "I", enNu)) (List.mem_of_getElem? (i := 1) rfl) rfl (hts _ kw_6_41) dX2_readNumbers_11 ?_
    refine lv_topi (fun z_1 ez_1 => ?_)
    obtain rfl : z_1 = nI (nuN i) := ez_1.trans (enNu_nI i (by omega))
    refine lv_icmp_ge (tgt := 138) hx hb dX2_readNumbers_14 (by decide) (fun c_2 => ?_) (fun c_2 => ?_)
    · skip
      have c_2n : (nuN i) ≤ t := (nI_leI (by omega) (by omega)).mp c_2
      have c_2 := Int32.not_lt.mpr c_2
      exact kx_138 nx tk st vl fv  H locs (hP.sub [0, 1, 2, 3, 4, 5] rfl) (hD.sub [0, 1, 2, 3, 4, 5] (by decide) rfl) hS ls (lv_sub hl [] rfl)
    · skip
      have c_2n : t < (nuN i) := nb_le (by omega) (by omega) c_2
      have c_2 := Int32.not_le.mp c_2
      refine lv_iload hx hb dX2_readNumbers_17 (lv_at hl 4 rfl) ?_
      refine lv_aload_n hx hb dX2_readNumbers_19 rfl (lv_at hl 0 rfl) ?_
      refine va_get (D := D) (ci := 2) (v := .ref va) (C := RX2) (T := TX2) (N := 9) hx hb hts inG_X2 hown hK hP 0 rfl rfl 2 (by decide) (hts _ kw_1_58) (fun _ h9 => h9) rfl dX2_readNumbers_20 ?_
      refine va_alen hx hb hK hP 1 0 rfl rfl (v := 3) rfl dX2_readNumbers_23 ?_
      refine lv_icmp_ge (tgt := 138) hx hb dX2_readNumbers_24 (by decide) (fun c_3 => ?_) (fun c_3 => ?_)
      · skip
        have c_3n : 3 ≤ t := (nI_leI (by omega) (by omega)).mp c_3
        have c_3 := Int32.not_lt.mpr c_3
        exact kx_138 nx tk st vl fv  H locs (hP.sub [0, 1, 2, 3, 4, 5] rfl) (hD.sub [0, 1, 2, 3, 4, 5] (by decide) rfl) hS ls (lv_sub hl [] rfl)
      · skip
        have c_3n : t < 3 := nb_le (by omega) (by omega) c_3
        have c_3 := Int32.not_le.mp c_3
        refine lv_aload_n hx hb dX2_readNumbers_27 rfl (lv_at hl 0 rfl) ?_
        refine mc_Vv (rest := []) (wr := [(va, .inl (vc, 3, .inl fv)), (cu, .inr (1, [.ref cu1, .ref cu2, .ref cu3, .ref cu4, .int sc, .int to])), (cu2, .inl (cc2, 4, .inl c2)), (cu3, .inl (cc3, 4, .inl c3))]) F hK hP hD hS hA (c_takeToken l D h0 va tx fk fp ln nx tk st vl tc ft ) ⟨gk_X2_36.1, gk_X2_36.2, Nat.le_of_ble_eq_true rfl, Nat.le_of_ble_eq_true rfl⟩ [0, 2] [1, 3, 4, 5] [1] ⟨rfl, rfl, rfl, rfl, by decide⟩ rfl xT_move (fun _ _ _ => trivial) 0 rfl rfl rfl hl.1 rfl (Nat.le_of_ble_eq_true rfl) dX2_readNumbers_28 ⟨Nat.le_of_ble_eq_true rfl, Nat.le_of_ble_eq_true rfl⟩ (fun u H locs hw hK1 hP hD hS => ?_)
        obtain ⟨nx1_4, tk1_5, st1_6, vl1_7⟩ := u
        have hP : va_P D vwCl [(va, .inl (vc, 3, .inl fv)), (cu, .inr (1, [.ref cu1, .ref cu2, .ref cu3, .ref cu4, .int sc, .int to])), (cu2, .inl (cc2, 4, .inl c2)), (cu3, .inl (cc3, 4, .inl c3)), (h0, .inr (2, [.int fk, .int fp, .ref va, .ref tx, .int ln, .int nx1_4, .int tk1_5, .int st1_6, .int vl1_7])), (tx, .inl (tc, 400, .inl ft))] H := hP
        have hD : va_D A [(va, .inl (vc, 3, .inl fv)), (cu, .inr (1, [.ref cu1, .ref cu2, .ref cu3, .ref cu4, .int sc, .int to])), (cu2, .inl (cc2, 4, .inl c2)), (cu3, .inl (cc3, 4, .inl c3)), (h0, .inr (2, [.int fk, .int fp, .ref va, .ref tx, .int ln, .int nx1_4, .int tk1_5, .int st1_6, .int vl1_7])), (tx, .inl (tc, 400, .inl ft))] := hD
        refine lv_aload_n hx hb dX2_readNumbers_31 rfl (lv_at hl 0 rfl) ?_
        refine va_get (D := D) (ci := 2) (v := .int tk1_5) (C := RX2) (T := TX2) (N := 9) hx hb hts inG_X2 hown hK hP 4 rfl rfl 6 (by decide) (hts _ kw_1_62) (fun _ h9 => h9) rfl dX2_readNumbers_32 ?_
        refine lv_iconst (v := 2) hx hb dX2_readNumbers_35 (by decide) ?_
        refine lv_icmp_eq (tgt := 49) hx hb dX2_readNumbers_36 (by decide) (fun c_10 => ?_) (fun c_10 => ?_)
        · skip
          refine lv_aload_n hx hb dX2_readNumbers_49 rfl (lv_at hl 1 rfl) ?_
          refine lv_iload hx hb dX2_readNumbers_50 (lv_at hl 4 rfl) ?_
          refine lv_aload_n hx hb dX2_readNumbers_52 rfl (lv_at hl 0 rfl) ?_
          refine va_get (D := D) (ci := 2) (v := .int vl1_7) (C := RX2) (T := TX2) (N := 9) hx hb hts inG_X2 hown hK hP 4 rfl rfl 8 (by decide) (hts _ kw_1_64) (fun _ h9 => h9) rfl dX2_readNumbers_53 ?_
          refine mc_Ki (rest := []) (wr := [(va, .inl (vc, 3, .inl fv)), (cu, .inr (1, [.ref cu1, .ref cu2, .ref cu3, .ref cu4, .int sc, .int to])), (cu2, .inl (cc2, 4, .inl c2)), (cu3, .inl (cc3, 4, .inl c3)), (h0, .inr (2, [.int fk, .int fp, .ref va, .ref tx, .int ln, .int nx1_4, .int tk1_5, .int st1_6, .int vl1_7])), (tx, .inl (tc, 400, .inl ft))]) F hK hP hD hS hA (c_allows l D en i (nI t) vl1_7 (by omega)) ⟨gk_X2_84.1, gk_X2_84.2, Nat.le_of_ble_eq_true rfl, Nat.le_of_ble_eq_true rfl⟩ [] [0, 1, 2, 3, 4, 5] [] ⟨rfl, rfl, rfl, rfl, by decide⟩ rfl (xN_move en) (xN_use hX hS (va_free hD hS hA [] rfl)) (x_rvE hX (by omega) hS) rfl hl.1 rfl (Nat.le_of_ble_eq_true rfl) dX2_readNumbers_56 ⟨Nat.le_of_ble_eq_true rfl, Nat.le_of_ble_eq_true rfl⟩ (fun r_11 _ H locs hw hK1 hP hD hS => ?_)
          have hP : va_P D vwCl [(va, .inl (vc, 3, .inl fv)), (cu, .inr (1, [.ref cu1, .ref cu2, .ref cu3, .ref cu4, .int sc, .int to])), (cu2, .inl (cc2, 4, .inl c2)), (cu3, .inl (cc3, 4, .inl c3)), (h0, .inr (2, [.int fk, .int fp, .ref va, .ref tx, .int ln, .int nx1_4, .int tk1_5, .int st1_6, .int vl1_7])), (tx, .inl (tc, 400, .inl ft))] H := hP
          have hD : va_D A [(va, .inl (vc, 3, .inl fv)), (cu, .inr (1, [.ref cu1, .ref cu2, .ref cu3, .ref cu4, .int sc, .int to])), (cu2, .inl (cc2, 4, .inl c2)), (cu3, .inl (cc3, 4, .inl c3)), (h0, .inr (2, [.int fk, .int fp, .ref va, .ref tx, .int ln, .int nx1_4, .int tk1_5, .int st1_6, .int vl1_7])), (tx, .inl (tc, 400, .inl ft))] := hD
          have hw_12 : r_11 = 0 ∨ r_11 = 1 := hw
          refine lv_if_ne (tgt := 72) hx hb dX2_readNumbers_59 (by decide) (fun c_13 => ?_) (fun c_13 => ?_)
          · skip
            refine lv_aload_n hx hb dX2_readNumbers_72 rfl (lv_at hl 0 rfl) ?_
            refine va_get (D := D) (ci := 2) (v := .ref va) (C := RX2) (T := TX2) (N := 9) hx hb hts inG_X2 hown hK hP 4 rfl rfl 2 (by decide) (hts _ kw_1_58) (fun _ h9 => h9) rfl dX2_readNumbers_73 ?_
            refine lv_iload hx hb dX2_readNumbers_76 (lv_at hl 4 rfl) ?_
            refine lv_aload_n hx hb dX2_readNumbers_78 rfl (lv_at hl 0 rfl) ?_
            refine va_get (D := D) (ci := 2) (v := .int vl1_7) (C := RX2) (T := TX2) (N := 9) hx hb hts inG_X2 hown hK hP 4 rfl rfl 8 (by decide) (hts _ kw_1_64) (fun _ h9 => h9) rfl dX2_readNumbers_79 ?_
            refine m_iast hx hb hK hP hD hS 0 0 rfl rfl t rfl (by omega) (by decide) dX2_readNumbers_82 (fun g_14 H locs eg_14 hP hD hS => ?_)
            have hP : va_P D vwCl [(va, .inl (vc, 3, .inl g_14)), (cu, .inr (1, [.ref cu1, .ref cu2, .ref cu3, .ref cu4, .int sc, .int to])), (cu2, .inl (cc2, 4, .inl c2)), (cu3, .inl (cc3, 4, .inl c3)), (h0, .inr (2, [.int fk, .int fp, .ref va, .ref tx, .int ln, .int nx1_4, .int tk1_5, .int st1_6, .int vl1_7])), (tx, .inl (tc, 400, .inl ft))] H := hP
            have hD : va_D A [(va, .inl (vc, 3, .inl g_14)), (cu, .inr (1, [.ref cu1, .ref cu2, .ref cu3, .ref cu4, .int sc, .int to])), (cu2, .inl (cc2, 4, .inl c2)), (cu3, .inl (cc3, 4, .inl c3)), (h0, .inr (2, [.int fk, .int fp, .ref va, .ref tx, .int ln, .int nx1_4, .int tk1_5, .int st1_6, .int vl1_7])), (tx, .inl (tc, 400, .inl ft))] := hD
            refine lv_iload hx hb dX2_readNumbers_83 (lv_at hl 4 rfl) ?_
            refine lv_if_ne (tgt := 93) hx hb dX2_readNumbers_85 (by decide) (fun c_15 => ?_) (fun c_15 => ?_)
            · skip
              have c_15n : ¬ t = 0 := nb_eq (by omega) (by omega) c_15
              refine lv_aload_n hx hb dX2_readNumbers_93 rfl (lv_at hl 1 rfl) ?_
              refine va_gets hx hb (C := RX5) (n := "STAIR") ((hX).1 6 (by decide)).1 hS hown (hts _ kw_2_197) (fun _ h9 => h9) dX2_readNumbers_94 ?_
              refine x_acmp_ne (tgt := 132) hx hb dX2_readNumbers_97 (by decide) (fun c_16 => ?_) (fun c_16 => ?_)
              · skip
                refine lv_iinc (v := nI (t + 1)) (lv' := [(4, .int (nI (t + 1))), (0, .ref h0), (1, .ref (en i)), (2, .ref cu), (3, .int pl)]) hx hb dX2_readNumbers_132 hl (k := 4) rfl (nI_add t 1) (by decide) rfl (fun ls hl => ?_)
                refine lv_goto (tgt := 8) hx hb dX2_readNumbers_135 (by decide) ?_
                exact ih nx1_4 tk1_5 st1_6 vl1_7 g_14 pl (t + 1) (by omega) (by omega) hn3 (by omega) H locs (hP.sub [4, 0, 5, 1, 2, 3] rfl) (hD.sub [4, 0, 5, 1, 2, 3] (by decide) rfl) hS ls (lv_sub hl [1, 2, 3, 4, 0] rfl)
              · skip
                refine lv_iload hx hb dX2_readNumbers_100 (lv_at hl 4 rfl) ?_
                refine lv_iconst (v := 1) hx hb dX2_readNumbers_102 (by decide) ?_
                refine lv_icmp_ne (tgt := 132) hx hb dX2_readNumbers_103 (by decide) (fun c_17 => ?_) (fun c_17 => ?_)
                · skip
                  have c_17n : ¬ t = 1 := nb_eq (by omega) (by omega) c_17
                  refine lv_iinc (v := nI (t + 1)) (lv' := [(4, .int (nI (t + 1))), (0, .ref h0), (1, .ref (en i)), (2, .ref cu), (3, .int pl)]) hx hb dX2_readNumbers_132 hl (k := 4) rfl (nI_add t 1) (by decide) rfl (fun ls hl => ?_)
                  refine lv_goto (tgt := 8) hx hb dX2_readNumbers_135 (by decide) ?_
                  exact ih nx1_4 tk1_5 st1_6 vl1_7 g_14 pl (t + 1) (by omega) (by omega) hn3 (by omega) H locs (hP.sub [4, 0, 5, 1, 2, 3] rfl) (hD.sub [4, 0, 5, 1, 2, 3] (by decide) rfl) hS ls (lv_sub hl [1, 2, 3, 4, 0] rfl)
                · skip
                  have c_17n : t = 1 := (nI_eq (by omega) (by omega)).mp c_17
                  refine lv_aload_n hx hb dX2_readNumbers_106 rfl (lv_at hl 2 rfl) ?_
                  refine lv_aload_n hx hb dX2_readNumbers_107 rfl (lv_at hl 0 rfl) ?_
                  refine va_get (D := D) (ci := 2) (v := .ref va) (C := RX2) (T := TX2) (N := 9) hx hb hts inG_X2 hown hK hP 4 rfl rfl 2 (by decide) (hts _ kw_1_58) (fun _ h9 => h9) rfl dX2_readNumbers_108 ?_
                  refine lv_iconst (v := 0) hx hb dX2_readNumbers_111 (by decide) ?_
                  refine m_iald hx hb hK hP 0 0 rfl rfl 0 rfl (by decide) (by decide) dX2_readNumbers_112 ?_
                  refine lv_topi (fun v_18 ev_18 => ?_)
                  refine lv_aload_n hx hb dX2_readNumbers_113 rfl (lv_at hl 0 rfl) ?_
                  refine va_get (D := D) (ci := 2) (v := .ref va) (C := RX2) (T := TX2) (N := 9) hx hb hts inG_X2 hown hK hP 4 rfl rfl 2 (by decide) (hts _ kw_1_58) (fun _ h9 => h9) rfl dX2_readNumbers_114 ?_
                  refine lv_iconst (v := 1) hx hb dX2_readNumbers_117 (by decide) ?_
                  refine m_iald hx hb hK hP 0 0 rfl rfl 1 rfl (by decide) (by decide) dX2_readNumbers_118 ?_
                  refine lv_topi (fun v_19 ev_19 => ?_)
                  refine mc_Vi (rest := []) (wr := [(va, .inl (vc, 3, .inl g_14)), (h0, .inr (2, [.int fk, .int fp, .ref va, .ref tx, .int ln, .int nx1_4, .int tk1_5, .int st1_6, .int vl1_7])), (tx, .inl (tc, 400, .inl ft))]) F hK hP hD hS hA (c_hasStairAt l D cu cu1 cu2 cu3 cu4 cc2 cc3 c2 c3 sc to v_18 v_19 ) ⟨gk_X2_87.1, gk_X2_87.2, Nat.le_of_ble_eq_true rfl, Nat.le_of_ble_eq_true rfl⟩ [1, 2, 3] [0, 4, 5] [2, 3] ⟨rfl, rfl, rfl, rfl, by decide⟩ rfl xT_move (fun _ _ _ => trivial) 1 rfl rfl rfl hl.1 rfl (Nat.le_of_ble_eq_true rfl) dX2_readNumbers_119 ⟨Nat.le_of_ble_eq_true rfl, Nat.le_of_ble_eq_true rfl⟩ (fun r_20 _ H locs hw hK1 hP hD hS => ?_)
                  have hP : va_P D vwCl [(va, .inl (vc, 3, .inl g_14)), (h0, .inr (2, [.int fk, .int fp, .ref va, .ref tx, .int ln, .int nx1_4, .int tk1_5, .int st1_6, .int vl1_7])), (tx, .inl (tc, 400, .inl ft)), (cu, .inr (1, [.ref cu1, .ref cu2, .ref cu3, .ref cu4, .int sc, .int to])), (cu2, .inl (cc2, 4, .inl c2)), (cu3, .inl (cc3, 4, .inl c3))] H := hP
                  have hD : va_D A [(va, .inl (vc, 3, .inl g_14)), (h0, .inr (2, [.int fk, .int fp, .ref va, .ref tx, .int ln, .int nx1_4, .int tk1_5, .int st1_6, .int vl1_7])), (tx, .inl (tc, 400, .inl ft)), (cu, .inr (1, [.ref cu1, .ref cu2, .ref cu3, .ref cu4, .int sc, .int to])), (cu2, .inl (cc2, 4, .inl c2)), (cu3, .inl (cc3, 4, .inl c3))] := hD
                  have hw_21 : r_20 = 0 ∨ r_20 = 1 := hw
                  refine lv_if_eq (tgt := 132) hx hb dX2_readNumbers_122 (by decide) (fun c_22 => ?_) (fun c_22 => ?_)
                  · skip
                    refine lv_iinc (v := nI (t + 1)) (lv' := [(4, .int (nI (t + 1))), (0, .ref h0), (1, .ref (en i)), (2, .ref cu), (3, .int pl)]) hx hb dX2_readNumbers_132 hl (k := 4) rfl (nI_add t 1) (by decide) rfl (fun ls hl => ?_)
                    refine lv_goto (tgt := 8) hx hb dX2_readNumbers_135 (by decide) ?_
                    exact ih nx1_4 tk1_5 st1_6 vl1_7 g_14 pl (t + 1) (by omega) (by omega) hn3 (by omega) H locs (hP.sub [1, 0, 2, 3, 4, 5] rfl) (hD.sub [1, 0, 2, 3, 4, 5] (by decide) rfl) hS ls (lv_sub hl [1, 2, 3, 4, 0] rfl)
                  · skip
                    exact kx_125 nx1_4 tk1_5 st1_6 vl1_7 g_14 pl  H locs (hP.sub [1, 0, 2, 3, 4, 5] rfl) (hD.sub [1, 0, 2, 3, 4, 5] (by decide) rfl) hS ls (lv_sub hl [0, 3] rfl)
            · skip
              have c_15n : t = 0 := (nI_eq (by omega) (by omega)).mp c_15
              refine lv_aload_n hx hb dX2_readNumbers_88 rfl (lv_at hl 0 rfl) ?_
              refine va_get (D := D) (ci := 2) (v := .int st1_6) (C := RX2) (T := TX2) (N := 9) hx hb hts inG_X2 hown hK hP 4 rfl rfl 7 (by decide) (hts _ kw_1_63) (fun _ h9 => h9) rfl dX2_readNumbers_89 ?_
              refine lv_istore_n (lv' := [(3, .int st1_6), (0, .ref h0), (1, .ref (en i)), (2, .ref cu), (4, .int (nI t))]) hx hb dX2_readNumbers_92 rfl hl (by decide) rfl (fun ls hl => ?_)
              refine lv_aload_n hx hb dX2_readNumbers_93 rfl (lv_at hl 2 rfl) ?_
              refine va_gets hx hb (C := RX5) (n := "STAIR") ((hX).1 6 (by decide)).1 hS hown (hts _ kw_2_197) (fun _ h9 => h9) dX2_readNumbers_94 ?_
              refine x_acmp_ne (tgt := 132) hx hb dX2_readNumbers_97 (by decide) (fun c_23 => ?_) (fun c_23 => ?_)
              · skip
                refine lv_iinc (v := nI (t + 1)) (lv' := [(4, .int (nI (t + 1))), (3, .int st1_6), (0, .ref h0), (1, .ref (en i)), (2, .ref cu)]) hx hb dX2_readNumbers_132 hl (k := 4) rfl (nI_add t 1) (by decide) rfl (fun ls hl => ?_)
                refine lv_goto (tgt := 8) hx hb dX2_readNumbers_135 (by decide) ?_
                exact ih nx1_4 tk1_5 st1_6 vl1_7 g_14 st1_6 (t + 1) (by omega) (by omega) hn3 (by omega) H locs (hP.sub [4, 0, 5, 1, 2, 3] rfl) (hD.sub [4, 0, 5, 1, 2, 3] (by decide) rfl) hS ls (lv_sub hl [2, 3, 4, 1, 0] rfl)
              · skip
                refine lv_iload hx hb dX2_readNumbers_100 (lv_at hl 4 rfl) ?_
                refine lv_iconst (v := 1) hx hb dX2_readNumbers_102 (by decide) ?_
                refine lv_icmp_ne (tgt := 132) hx hb dX2_readNumbers_103 (by decide) (fun c_24 => ?_) (fun c_24 => ?_)
                · skip
                  have c_24n : ¬ t = 1 := nb_eq (by omega) (by omega) c_24
                  refine lv_iinc (v := nI (t + 1)) (lv' := [(4, .int (nI (t + 1))), (3, .int st1_6), (0, .ref h0), (1, .ref (en i)), (2, .ref cu)]) hx hb dX2_readNumbers_132 hl (k := 4) rfl (nI_add t 1) (by decide) rfl (fun ls hl => ?_)
                  refine lv_goto (tgt := 8) hx hb dX2_readNumbers_135 (by decide) ?_
                  exact ih nx1_4 tk1_5 st1_6 vl1_7 g_14 st1_6 (t + 1) (by omega) (by omega) hn3 (by omega) H locs (hP.sub [4, 0, 5, 1, 2, 3] rfl) (hD.sub [4, 0, 5, 1, 2, 3] (by decide) rfl) hS ls (lv_sub hl [2, 3, 4, 1, 0] rfl)
                · skip
                  have c_24n : t = 1 := (nI_eq (by omega) (by omega)).mp c_24
                  refine lv_aload_n hx hb dX2_readNumbers_106 rfl (lv_at hl 3 rfl) ?_
                  refine lv_aload_n hx hb dX2_readNumbers_107 rfl (lv_at hl 1 rfl) ?_
                  refine va_get (D := D) (ci := 2) (v := .ref va) (C := RX2) (T := TX2) (N := 9) hx hb hts inG_X2 hown hK hP 4 rfl rfl 2 (by decide) (hts _ kw_1_58) (fun _ h9 => h9) rfl dX2_readNumbers_108 ?_
                  refine lv_iconst (v := 0) hx hb dX2_readNumbers_111 (by decide) ?_
                  refine m_iald hx hb hK hP 0 0 rfl rfl 0 rfl (by decide) (by decide) dX2_readNumbers_112 ?_
                  refine lv_topi (fun v_25 ev_25 => ?_)
                  refine lv_aload_n hx hb dX2_readNumbers_113 rfl (lv_at hl 1 rfl) ?_
                  refine va_get (D := D) (ci := 2) (v := .ref va) (C := RX2) (T := TX2) (N := 9) hx hb hts inG_X2 hown hK hP 4 rfl rfl 2 (by decide) (hts _ kw_1_58) (fun _ h9 => h9) rfl dX2_readNumbers_114 ?_
                  refine lv_iconst (v := 1) hx hb dX2_readNumbers_117 (by decide) ?_
                  refine m_iald hx hb hK hP 0 0 rfl rfl 1 rfl (by decide) (by decide) dX2_readNumbers_118 ?_
                  refine lv_topi (fun v_26 ev_26 => ?_)
                  refine mc_Vi (rest := []) (wr := [(va, .inl (vc, 3, .inl g_14)), (h0, .inr (2, [.int fk, .int fp, .ref va, .ref tx, .int ln, .int nx1_4, .int tk1_5, .int st1_6, .int vl1_7])), (tx, .inl (tc, 400, .inl ft))]) F hK hP hD hS hA (c_hasStairAt l D cu cu1 cu2 cu3 cu4 cc2 cc3 c2 c3 sc to v_25 v_26 ) ⟨gk_X2_87.1, gk_X2_87.2, Nat.le_of_ble_eq_true rfl, Nat.le_of_ble_eq_true rfl⟩ [1, 2, 3] [0, 4, 5] [2, 3] ⟨rfl, rfl, rfl, rfl, by decide⟩ rfl xT_move (fun _ _ _ => trivial) 1 rfl rfl rfl hl.1 rfl (Nat.le_of_ble_eq_true rfl) dX2_readNumbers_119 ⟨Nat.le_of_ble_eq_true rfl, Nat.le_of_ble_eq_true rfl⟩ (fun r_27 _ H locs hw hK1 hP hD hS => ?_)
                  have hP : va_P D vwCl [(va, .inl (vc, 3, .inl g_14)), (h0, .inr (2, [.int fk, .int fp, .ref va, .ref tx, .int ln, .int nx1_4, .int tk1_5, .int st1_6, .int vl1_7])), (tx, .inl (tc, 400, .inl ft)), (cu, .inr (1, [.ref cu1, .ref cu2, .ref cu3, .ref cu4, .int sc, .int to])), (cu2, .inl (cc2, 4, .inl c2)), (cu3, .inl (cc3, 4, .inl c3))] H := hP
                  have hD : va_D A [(va, .inl (vc, 3, .inl g_14)), (h0, .inr (2, [.int fk, .int fp, .ref va, .ref tx, .int ln, .int nx1_4, .int tk1_5, .int st1_6, .int vl1_7])), (tx, .inl (tc, 400, .inl ft)), (cu, .inr (1, [.ref cu1, .ref cu2, .ref cu3, .ref cu4, .int sc, .int to])), (cu2, .inl (cc2, 4, .inl c2)), (cu3, .inl (cc3, 4, .inl c3))] := hD
                  have hw_28 : r_27 = 0 ∨ r_27 = 1 := hw
                  refine lv_if_eq (tgt := 132) hx hb dX2_readNumbers_122 (by decide) (fun c_29 => ?_) (fun c_29 => ?_)
                  · skip
                    refine lv_iinc (v := nI (t + 1)) (lv' := [(4, .int (nI (t + 1))), (3, .int st1_6), (0, .ref h0), (1, .ref (en i)), (2, .ref cu)]) hx hb dX2_readNumbers_132 hl (k := 4) rfl (nI_add t 1) (by decide) rfl (fun ls hl => ?_)
                    refine lv_goto (tgt := 8) hx hb dX2_readNumbers_135 (by decide) ?_
                    exact ih nx1_4 tk1_5 st1_6 vl1_7 g_14 st1_6 (t + 1) (by omega) (by omega) hn3 (by omega) H locs (hP.sub [1, 0, 2, 3, 4, 5] rfl) (hD.sub [1, 0, 2, 3, 4, 5] (by decide) rfl) hS ls (lv_sub hl [2, 3, 4, 1, 0] rfl)
                  · skip
                    exact kx_125 nx1_4 tk1_5 st1_6 vl1_7 g_14 st1_6  H locs (hP.sub [1, 0, 2, 3, 4, 5] rfl) (hD.sub [1, 0, 2, 3, 4, 5] (by decide) rfl) hS ls (lv_sub hl [1, 0] rfl)
          · skip
            exact kx_62 nx1_4 tk1_5 st1_6 vl1_7 fv  H locs (hP.sub [4, 0, 5, 1, 2, 3] rfl) (hD.sub [4, 0, 5, 1, 2, 3] (by decide) rfl) hS ls (lv_sub hl [0] rfl)
        · skip
          exact kx_39 nx1_4 tk1_5 st1_6 vl1_7 fv  H locs (hP.sub [4, 0, 5, 1, 2, 3] rfl) (hD.sub [4, 0, 5, 1, 2, 3] (by decide) rfl) hS ls (lv_sub hl [0] rfl)
set_option maxHeartbeats 4000000 in
set_option maxRecDepth 100000 in
theorem c_readNumbers (l : Launch) (D : va_G) (en : Nat → Nat) (h0 : Nat) (va : Nat) (tx : Nat) (cu : Nat) (cu1 : Nat) (cu2 : Nat) (cu3 : Nat) (cu4 : Nat) (tc : ClassId) (vc : ClassId) (cc2 : ClassId) (cc3 : ClassId) (ft : Nat → Int32) (c2 : Nat → Int32) (c3 : Nat → Int32) (sc : Int32) (to : Int32) (ln : Int32) (i : Nat) (fk : Int32) (fp : Int32) (nx : Int32) (tk : Int32) (st : Int32) (vl : Int32) (fv : Nat → Int32) (hi7 : i < 7) : cI l yX2_readNumbers (.code yX2_readNumbers cX2_readNumbers 5 (some .boolean)) ({ frames := 3, cells := 0, slots := 0, locals := 100 }) D [(vc, .int), (tc, .int), (cc2, .int), (cc3, .int)] [(h0, .inr (2, [.int fk, .int fp, .ref va, .ref tx, .int ln, .int nx, .int tk, .int st, .int vl])), (va, .inl (vc, 3, .inl fv)), (tx, .inl (tc, 400, .inl ft)), (cu, .inr (1, [.ref cu1, .ref cu2, .ref cu3, .ref cu4, .int sc, .int to])), (cu2, .inl (cc2, 4, .inl c2)), (cu3, .inl (cc3, 4, .inl c3))] (xN en) [.ref h0, .ref (en i), .ref cu] (S := Int32 × Int32 × Int32 × Int32 × Int32 × Int32 × (Nat → Int32)) (fun r u => match u with | (fk1, fp1, nx1, tk1, st1, vl1, fv1) => r = 0 ∨ r = 1) (fun u => match u with | (fk1, fp1, nx1, tk1, st1, vl1, fv1) => []) (fun u => match u with | (fk1, fp1, nx1, tk1, st1, vl1, fv1) => [(h0, .inr (2, [.int fk1, .int fp1, .ref va, .ref tx, .int ln, .int nx1, .int tk1, .int st1, .int vl1])), (va, .inl (vc, 3, .inl fv1)), (tx, .inl (tc, 400, .inl ft)), (cu, .inr (1, [.ref cu1, .ref cu2, .ref cu3, .ref cu4, .int sc, .int to])), (cu2, .inl (cc2, 4, .inl c2)), (cu3, .inl (cc3, 4, .inl c3))]) := by
  intro sz
  refine Met.ofW (cc := cX2_readNumbers) (maxL := 5) (ret := (some .boolean)) (by decide) rfl ?_
  intro p e s m args below meth c s₁ B hml hv
  obtain ⟨rfl, hsz, hP, hK, hD0, hX⟩ := hv
  have hx := B.exec
  have hb := B.bytes
  have hr := B.returns
  have hts0 := atoms_spec (ws := .code yX2_readNumbers cX2_readNumbers 5 (some .boolean) :: gw) B.pre
  have hts := fun (w : Cond) (h : w ∈ gw) => hts0 w (List.mem_cons_of_mem _ h)
  have hown : s.vm.findClass RX2 = some m.cls := findClass_of_methodNamed B.named
  have hlocks := B.notSynchronized
  have F : mFix p s m _ c cX2_readNumbers 5 RX2 := ⟨hx, hb, hml, hown, hts⟩
  subst hsz
  have hD := hD0.self (sz := s.heap.size)
  generalize hAe : va_A [(h0, .inr (2, [.int fk, .int fp, .ref va, .ref tx, .int ln, .int nx, .int tk, .int st, .int vl])), (va, .inl (vc, 3, .inl fv)), (tx, .inl (tc, 400, .inl ft)), (cu, .inr (1, [.ref cu1, .ref cu2, .ref cu3, .ref cu4, .int sc, .int to])), (cu2, .inl (cc2, 4, .inl c2)), (cu3, .inl (cc3, 4, .inl c3))] s.heap.size = A at hD hX ⊢
  have hA : ∀ q : Nat, s.heap.size ≤ q → A q := fun q h => by rw [← hAe]; exact Or.inr h
  have hS : va_S A s.heap s.heap [] := va_S.rf
  have hl := lv_entry ([.ref h0, .ref (en i), .ref cu]) (n := 5) (Nat.le_of_ble_eq_true rfl)
  rw [lg_entry_eq]
  generalize (lg_sl ([.ref h0, .ref (en i), .ref cu]) ++ List.replicate (5 - (lg_sl ([.ref h0, .ref (en i), .ref cu])).length) Slot.unset).toArray = ls at hl ⊢
  have hl : lv_has ls 5 [(0, .ref h0), (1, .ref (en i)), (2, .ref cu)] := hl
  have hP : va_P D vwCl [(h0, .inr (2, [.int fk, .int fp, .ref va, .ref tx, .int ln, .int nx, .int tk, .int st, .int vl])), (va, .inl (vc, 3, .inl fv)), (tx, .inl (tc, 400, .inl ft)), (cu, .inr (1, [.ref cu1, .ref cu2, .ref cu3, .ref cu4, .int sc, .int to])), (cu2, .inl (cc2, 4, .inl c2)), (cu3, .inl (cc3, 4, .inl c3))] s.heap := hP
  refine lv_aload_n hx hb dX2_readNumbers_0 rfl (lv_at hl 0 rfl) ?_
  refine va_get (D := D) (ci := 2) (v := .int nx) (C := RX2) (T := TX2) (N := 9) hx hb hts inG_X2 hown hK hP 0 rfl rfl 5 (by decide) (hts _ kw_1_61) (fun _ h9 => h9) rfl dX2_readNumbers_1 ?_
  refine lv_istore_n (lv' := [(3, .int nx), (0, .ref h0), (1, .ref (en i)), (2, .ref cu)]) hx hb dX2_readNumbers_4 rfl hl (by decide) rfl (fun ls hl => ?_)
  refine lv_iconst (v := 0) hx hb dX2_readNumbers_5 (by decide) ?_
  refine lv_istore (lv' := [(4, .int 0), (3, .int nx), (0, .ref h0), (1, .ref (en i)), (2, .ref cu)]) hx hb dX2_readNumbers_6 hl (by decide) rfl (fun ls hl => ?_)
  refine lp_readNumbers F hA en h0 va tx cu cu1 cu2 cu3 cu4 tc vc cc2 cc3 ft c2 c3 sc to ln i fk fp (hK.sub [0, 1, 2, 3] rfl) hX (fun nx_1 tk_2 st_3 vl_4 fv_5  H locs hP hD hS ls hl => ?_) (fun nx_6 tk_7 st_8 vl_9 fv_10  H locs hP hD hS ls hl => ?_) (fun nx_11 tk_12 st_13 vl_14 fv_15 pl_16  H locs hP hD hS ls hl => ?_) (fun nx_17 tk_18 st_19 vl_20 fv_21  H locs hP hD hS ls hl => ?_) _ nx tk st vl fv nx 0 (by omega) (by omega) (nuN_le i hi7) (Nat.lt_succ_self _) _ _ (hP.sub [0, 1, 2, 3, 4, 5] rfl) (hD.sub [0, 1, 2, 3, 4, 5] (by decide) rfl) hS ls (lv_sub hl [2, 3, 4, 1, 0] rfl)
  · skip
    refine lv_aload_n hx hb dX2_readNumbers_39 rfl (lv_at hl 0 rfl) ?_
    refine lv_iconst (v := 1) hx hb dX2_readNumbers_40 (by decide) ?_
    refine lv_aload_n hx hb dX2_readNumbers_41 rfl (lv_at hl 0 rfl) ?_
    refine va_get (D := D) (ci := 2) (v := .int st_3) (C := RX2) (T := TX2) (N := 9) hx hb hts inG_X2 hown hK hP 0 rfl rfl 7 (by decide) (hts _ kw_1_63) (fun _ h9 => h9) rfl dX2_readNumbers_42 ?_
    refine mc_Vi (rest := []) (wr := [(va, .inl (vc, 3, .inl fv_5)), (tx, .inl (tc, 400, .inl ft)), (cu, .inr (1, [.ref cu1, .ref cu2, .ref cu3, .ref cu4, .int sc, .int to])), (cu2, .inl (cc2, 4, .inl c2)), (cu3, .inl (cc3, 4, .inl c3))]) F hK hP hD hS hA (c_refuse l D h0 va tx fk fp ln nx_1 tk_2 st_3 vl_4 1 st_3 ) ⟨gk_X2_53.1, gk_X2_53.2, Nat.le_of_ble_eq_true rfl, Nat.le_of_ble_eq_true rfl⟩ [0] [1, 2, 3, 4, 5] [] ⟨rfl, rfl, rfl, rfl, by decide⟩ rfl xT_move (fun _ _ _ => trivial) 0 rfl rfl rfl hl.1 rfl (Nat.le_of_ble_eq_true rfl) dX2_readNumbers_45 ⟨Nat.le_of_ble_eq_true rfl, Nat.le_of_ble_eq_true rfl⟩ (fun r_22 _ H locs hw hK1 hP hD hS => ?_)
    have hP : va_P D vwCl [(va, .inl (vc, 3, .inl fv_5)), (tx, .inl (tc, 400, .inl ft)), (cu, .inr (1, [.ref cu1, .ref cu2, .ref cu3, .ref cu4, .int sc, .int to])), (cu2, .inl (cc2, 4, .inl c2)), (cu3, .inl (cc3, 4, .inl c3)), (h0, .inr (2, [.int 1, .int st_3, .ref va, .ref tx, .int ln, .int nx_1, .int tk_2, .int st_3, .int vl_4]))] H := hP
    have hD : va_D A [(va, .inl (vc, 3, .inl fv_5)), (tx, .inl (tc, 400, .inl ft)), (cu, .inr (1, [.ref cu1, .ref cu2, .ref cu3, .ref cu4, .int sc, .int to])), (cu2, .inl (cc2, 4, .inl c2)), (cu3, .inl (cc3, 4, .inl c3)), (h0, .inr (2, [.int 1, .int st_3, .ref va, .ref tx, .int ln, .int nx_1, .int tk_2, .int st_3, .int vl_4]))] := hD
    have hw_23 : r_22 = 0 := hw
    obtain rfl : r_22 = 0 := hw_23
    have hP9 := hP.sub (ws' := [(h0, .inr (2, [.int 1, .int st_3, .ref va, .ref tx, .int ln, .int nx_1, .int tk_2, .int st_3, .int vl_4])), (va, .inl (vc, 3, .inl fv_5)), (tx, .inl (tc, 400, .inl ft)), (cu, .inr (1, [.ref cu1, .ref cu2, .ref cu3, .ref cu4, .int sc, .int to])), (cu2, .inl (cc2, 4, .inl c2)), (cu3, .inl (cc3, 4, .inl c3))]) [5, 0, 1, 2, 3, 4] rfl
    have hD9 := hD.sub (ws' := [(h0, .inr (2, [.int 1, .int st_3, .ref va, .ref tx, .int ln, .int nx_1, .int tk_2, .int st_3, .int vl_4])), (va, .inl (vc, 3, .inl fv_5)), (tx, .inl (tc, 400, .inl ft)), (cu, .inr (1, [.ref cu1, .ref cu2, .ref cu3, .ref cu4, .int sc, .int to])), (cu2, .inl (cc2, 4, .inl c2)), (cu3, .inl (cc3, 4, .inl c3))]) [5, 0, 1, 2, 3, 4] (by decide) rfl
    have hK9 := hK.sub (tys' := []) [] rfl
    refine W.widen (k := 0) (n := 0) (by decide) (by decide) ?_
    exact W.zret (v := 0) hx hb hr rfl (fun t ht hW => ⟨⟨0, (1, st_3, nx_1, tk_2, st_3, vl_4, fv_5), rfl, Or.inl rfl, by rw [ht]; exact hP9, va_K.moved hW.alike hK9, hD9⟩, hS.F ht⟩) hS.2.2 dX2_readNumbers_48
  · skip
    refine lv_aload_n hx hb dX2_readNumbers_62 rfl (lv_at hl 0 rfl) ?_
    refine lv_iconst (v := 2) hx hb dX2_readNumbers_63 (by decide) ?_
    refine lv_aload_n hx hb dX2_readNumbers_64 rfl (lv_at hl 0 rfl) ?_
    refine va_get (D := D) (ci := 2) (v := .int st_8) (C := RX2) (T := TX2) (N := 9) hx hb hts inG_X2 hown hK hP 0 rfl rfl 7 (by decide) (hts _ kw_1_63) (fun _ h9 => h9) rfl dX2_readNumbers_65 ?_
    refine mc_Vi (rest := []) (wr := [(va, .inl (vc, 3, .inl fv_10)), (tx, .inl (tc, 400, .inl ft)), (cu, .inr (1, [.ref cu1, .ref cu2, .ref cu3, .ref cu4, .int sc, .int to])), (cu2, .inl (cc2, 4, .inl c2)), (cu3, .inl (cc3, 4, .inl c3))]) F hK hP hD hS hA (c_refuse l D h0 va tx fk fp ln nx_6 tk_7 st_8 vl_9 2 st_8 ) ⟨gk_X2_53.1, gk_X2_53.2, Nat.le_of_ble_eq_true rfl, Nat.le_of_ble_eq_true rfl⟩ [0] [1, 2, 3, 4, 5] [] ⟨rfl, rfl, rfl, rfl, by decide⟩ rfl xT_move (fun _ _ _ => trivial) 0 rfl rfl rfl hl.1 rfl (Nat.le_of_ble_eq_true rfl) dX2_readNumbers_68 ⟨Nat.le_of_ble_eq_true rfl, Nat.le_of_ble_eq_true rfl⟩ (fun r_24 _ H locs hw hK1 hP hD hS => ?_)
    have hP : va_P D vwCl [(va, .inl (vc, 3, .inl fv_10)), (tx, .inl (tc, 400, .inl ft)), (cu, .inr (1, [.ref cu1, .ref cu2, .ref cu3, .ref cu4, .int sc, .int to])), (cu2, .inl (cc2, 4, .inl c2)), (cu3, .inl (cc3, 4, .inl c3)), (h0, .inr (2, [.int 2, .int st_8, .ref va, .ref tx, .int ln, .int nx_6, .int tk_7, .int st_8, .int vl_9]))] H := hP
    have hD : va_D A [(va, .inl (vc, 3, .inl fv_10)), (tx, .inl (tc, 400, .inl ft)), (cu, .inr (1, [.ref cu1, .ref cu2, .ref cu3, .ref cu4, .int sc, .int to])), (cu2, .inl (cc2, 4, .inl c2)), (cu3, .inl (cc3, 4, .inl c3)), (h0, .inr (2, [.int 2, .int st_8, .ref va, .ref tx, .int ln, .int nx_6, .int tk_7, .int st_8, .int vl_9]))] := hD
    have hw_25 : r_24 = 0 := hw
    obtain rfl : r_24 = 0 := hw_25
    have hP9 := hP.sub (ws' := [(h0, .inr (2, [.int 2, .int st_8, .ref va, .ref tx, .int ln, .int nx_6, .int tk_7, .int st_8, .int vl_9])), (va, .inl (vc, 3, .inl fv_10)), (tx, .inl (tc, 400, .inl ft)), (cu, .inr (1, [.ref cu1, .ref cu2, .ref cu3, .ref cu4, .int sc, .int to])), (cu2, .inl (cc2, 4, .inl c2)), (cu3, .inl (cc3, 4, .inl c3))]) [5, 0, 1, 2, 3, 4] rfl
    have hD9 := hD.sub (ws' := [(h0, .inr (2, [.int 2, .int st_8, .ref va, .ref tx, .int ln, .int nx_6, .int tk_7, .int st_8, .int vl_9])), (va, .inl (vc, 3, .inl fv_10)), (tx, .inl (tc, 400, .inl ft)), (cu, .inr (1, [.ref cu1, .ref cu2, .ref cu3, .ref cu4, .int sc, .int to])), (cu2, .inl (cc2, 4, .inl c2)), (cu3, .inl (cc3, 4, .inl c3))]) [5, 0, 1, 2, 3, 4] (by decide) rfl
    have hK9 := hK.sub (tys' := []) [] rfl
    refine W.widen (k := 0) (n := 0) (by decide) (by decide) ?_
    exact W.zret (v := 0) hx hb hr rfl (fun t ht hW => ⟨⟨0, (2, st_8, nx_6, tk_7, st_8, vl_9, fv_10), rfl, Or.inl rfl, by rw [ht]; exact hP9, va_K.moved hW.alike hK9, hD9⟩, hS.F ht⟩) hS.2.2 dX2_readNumbers_71
  · skip
    refine lv_aload_n hx hb dX2_readNumbers_125 rfl (lv_at hl 0 rfl) ?_
    refine lv_iconst (v := 3) hx hb dX2_readNumbers_126 (by decide) ?_
    refine lv_iload_n hx hb dX2_readNumbers_127 rfl (lv_at hl 1 rfl) ?_
    refine mc_Vi (rest := []) (wr := [(va, .inl (vc, 3, .inl fv_15)), (tx, .inl (tc, 400, .inl ft)), (cu, .inr (1, [.ref cu1, .ref cu2, .ref cu3, .ref cu4, .int sc, .int to])), (cu2, .inl (cc2, 4, .inl c2)), (cu3, .inl (cc3, 4, .inl c3))]) F hK hP hD hS hA (c_refuse l D h0 va tx fk fp ln nx_11 tk_12 st_13 vl_14 3 pl_16 ) ⟨gk_X2_53.1, gk_X2_53.2, Nat.le_of_ble_eq_true rfl, Nat.le_of_ble_eq_true rfl⟩ [0] [1, 2, 3, 4, 5] [] ⟨rfl, rfl, rfl, rfl, by decide⟩ rfl xT_move (fun _ _ _ => trivial) 0 rfl rfl rfl hl.1 rfl (Nat.le_of_ble_eq_true rfl) dX2_readNumbers_128 ⟨Nat.le_of_ble_eq_true rfl, Nat.le_of_ble_eq_true rfl⟩ (fun r_26 _ H locs hw hK1 hP hD hS => ?_)
    have hP : va_P D vwCl [(va, .inl (vc, 3, .inl fv_15)), (tx, .inl (tc, 400, .inl ft)), (cu, .inr (1, [.ref cu1, .ref cu2, .ref cu3, .ref cu4, .int sc, .int to])), (cu2, .inl (cc2, 4, .inl c2)), (cu3, .inl (cc3, 4, .inl c3)), (h0, .inr (2, [.int 3, .int pl_16, .ref va, .ref tx, .int ln, .int nx_11, .int tk_12, .int st_13, .int vl_14]))] H := hP
    have hD : va_D A [(va, .inl (vc, 3, .inl fv_15)), (tx, .inl (tc, 400, .inl ft)), (cu, .inr (1, [.ref cu1, .ref cu2, .ref cu3, .ref cu4, .int sc, .int to])), (cu2, .inl (cc2, 4, .inl c2)), (cu3, .inl (cc3, 4, .inl c3)), (h0, .inr (2, [.int 3, .int pl_16, .ref va, .ref tx, .int ln, .int nx_11, .int tk_12, .int st_13, .int vl_14]))] := hD
    have hw_27 : r_26 = 0 := hw
    obtain rfl : r_26 = 0 := hw_27
    have hP9 := hP.sub (ws' := [(h0, .inr (2, [.int 3, .int pl_16, .ref va, .ref tx, .int ln, .int nx_11, .int tk_12, .int st_13, .int vl_14])), (va, .inl (vc, 3, .inl fv_15)), (tx, .inl (tc, 400, .inl ft)), (cu, .inr (1, [.ref cu1, .ref cu2, .ref cu3, .ref cu4, .int sc, .int to])), (cu2, .inl (cc2, 4, .inl c2)), (cu3, .inl (cc3, 4, .inl c3))]) [5, 0, 1, 2, 3, 4] rfl
    have hD9 := hD.sub (ws' := [(h0, .inr (2, [.int 3, .int pl_16, .ref va, .ref tx, .int ln, .int nx_11, .int tk_12, .int st_13, .int vl_14])), (va, .inl (vc, 3, .inl fv_15)), (tx, .inl (tc, 400, .inl ft)), (cu, .inr (1, [.ref cu1, .ref cu2, .ref cu3, .ref cu4, .int sc, .int to])), (cu2, .inl (cc2, 4, .inl c2)), (cu3, .inl (cc3, 4, .inl c3))]) [5, 0, 1, 2, 3, 4] (by decide) rfl
    have hK9 := hK.sub (tys' := []) [] rfl
    refine W.widen (k := 0) (n := 0) (by decide) (by decide) ?_
    exact W.zret (v := 0) hx hb hr rfl (fun t ht hW => ⟨⟨0, (3, pl_16, nx_11, tk_12, st_13, vl_14, fv_15), rfl, Or.inl rfl, by rw [ht]; exact hP9, va_K.moved hW.alike hK9, hD9⟩, hS.F ht⟩) hS.2.2 dX2_readNumbers_131
  · skip
    refine lv_iconst (v := 1) hx hb dX2_readNumbers_138 (by decide) ?_
    have hP9 := hP.sub (ws' := [(h0, .inr (2, [.int fk, .int fp, .ref va, .ref tx, .int ln, .int nx_17, .int tk_18, .int st_19, .int vl_20])), (va, .inl (vc, 3, .inl fv_21)), (tx, .inl (tc, 400, .inl ft)), (cu, .inr (1, [.ref cu1, .ref cu2, .ref cu3, .ref cu4, .int sc, .int to])), (cu2, .inl (cc2, 4, .inl c2)), (cu3, .inl (cc3, 4, .inl c3))]) [0, 1, 2, 3, 4, 5] rfl
    have hD9 := hD.sub (ws' := [(h0, .inr (2, [.int fk, .int fp, .ref va, .ref tx, .int ln, .int nx_17, .int tk_18, .int st_19, .int vl_20])), (va, .inl (vc, 3, .inl fv_21)), (tx, .inl (tc, 400, .inl ft)), (cu, .inr (1, [.ref cu1, .ref cu2, .ref cu3, .ref cu4, .int sc, .int to])), (cu2, .inl (cc2, 4, .inl c2)), (cu3, .inl (cc3, 4, .inl c3))]) [0, 1, 2, 3, 4, 5] (by decide) rfl
    have hK9 := hK.sub (tys' := []) [] rfl
    refine W.widen (k := 0) (n := 0) (by decide) (by decide) ?_
    exact W.zret (v := 1) hx hb hr rfl (fun t ht hW => ⟨⟨1, (fk, fp, nx_17, tk_18, st_19, vl_20, fv_21), rfl, Or.inr rfl, by rw [ht]; exact hP9, va_K.moved hW.alike hK9, hD9⟩, hS.F ht⟩) hS.2.2 dX2_readNumbers_139
set_option maxHeartbeats 4000000 in
set_option maxRecDepth 100000 in
theorem c_readLine (l : Launch) (D : va_G) (en : Nat → Nat) (kk : Nat → Nat) (h0 : Nat) (va : Nat) (tx : Nat) (cu : Nat) (cu1 : Nat) (cu2 : Nat) (cu3 : Nat) (cu4 : Nat) (tc : ClassId) (vc : ClassId) (cc1 : ClassId) (cc2 : ClassId) (cc3 : ClassId) (cc4 : ClassId) (ft : Nat → Int32) (ln : Int32) (fk : Int32) (fp : Int32) (nx : Int32) (tk : Int32) (st : Int32) (vl : Int32) (sc : Int32) (to : Int32) (fv : Nat → Int32) (c1 : Nat → Int32) (c2 : Nat → Int32) (c3 : Nat → Int32) (c4 : Nat → Int32) : cI l yX2_readLine (.code yX2_readLine cX2_readLine 3 (some .boolean)) ({ frames := 8, cells := 0, slots := 0, locals := 212 }) D [(vc, .int), (tc, .int), (cc1, .int), (cc2, .int), (cc3, .int), (cc4, .int)] [(h0, .inr (2, [.int fk, .int fp, .ref va, .ref tx, .int ln, .int nx, .int tk, .int st, .int vl])), (va, .inl (vc, 3, .inl fv)), (tx, .inl (tc, 400, .inl ft)), (cu, .inr (1, [.ref cu1, .ref cu2, .ref cu3, .ref cu4, .int sc, .int to])), (cu1, .inl (cc1, 8, .inl c1)), (cu2, .inl (cc2, 4, .inl c2)), (cu3, .inl (cc3, 4, .inl c3)), (cu4, .inl (cc4, 4, .inl c4))] (xR en kk) [.ref h0, .ref cu] (S := Int32 × Int32 × Int32 × Int32 × Int32 × Int32 × Int32 × Int32 × (Nat → Int32) × (Nat → Int32) × (Nat → Int32) × (Nat → Int32) × (Nat → Int32)) (fun r u => match u with | (fk1, fp1, nx1, tk1, st1, vl1, sc1, to1, fv1, d1, d2, d3, d4) => r = 0 ∨ r = 1) (fun u => match u with | (fk1, fp1, nx1, tk1, st1, vl1, sc1, to1, fv1, d1, d2, d3, d4) => []) (fun u => match u with | (fk1, fp1, nx1, tk1, st1, vl1, sc1, to1, fv1, d1, d2, d3, d4) => [(h0, .inr (2, [.int fk1, .int fp1, .ref va, .ref tx, .int ln, .int nx1, .int tk1, .int st1, .int vl1])), (va, .inl (vc, 3, .inl fv1)), (tx, .inl (tc, 400, .inl ft)), (cu, .inr (1, [.ref cu1, .ref cu2, .ref cu3, .ref cu4, .int sc1, .int to1])), (cu1, .inl (cc1, 8, .inl d1)), (cu2, .inl (cc2, 4, .inl d2)), (cu3, .inl (cc3, 4, .inl d3)), (cu4, .inl (cc4, 4, .inl d4))]) := by
  intro sz
  refine Met.ofW (cc := cX2_readLine) (maxL := 3) (ret := (some .boolean)) (by decide) rfl ?_
  intro p e s m args below meth c s₁ B hml hv
  obtain ⟨rfl, hsz, hP, hK, hD0, hX⟩ := hv
  have hx := B.exec
  have hb := B.bytes
  have hr := B.returns
  have hts0 := atoms_spec (ws := .code yX2_readLine cX2_readLine 3 (some .boolean) :: gw) B.pre
  have hts := fun (w : Cond) (h : w ∈ gw) => hts0 w (List.mem_cons_of_mem _ h)
  have hown : s.vm.findClass RX2 = some m.cls := findClass_of_methodNamed B.named
  have hlocks := B.notSynchronized
  have F : mFix p s m _ c cX2_readLine 3 RX2 := ⟨hx, hb, hml, hown, hts⟩
  subst hsz
  have hD := hD0.self (sz := s.heap.size)
  generalize hAe : va_A [(h0, .inr (2, [.int fk, .int fp, .ref va, .ref tx, .int ln, .int nx, .int tk, .int st, .int vl])), (va, .inl (vc, 3, .inl fv)), (tx, .inl (tc, 400, .inl ft)), (cu, .inr (1, [.ref cu1, .ref cu2, .ref cu3, .ref cu4, .int sc, .int to])), (cu1, .inl (cc1, 8, .inl c1)), (cu2, .inl (cc2, 4, .inl c2)), (cu3, .inl (cc3, 4, .inl c3)), (cu4, .inl (cc4, 4, .inl c4))] s.heap.size = A at hD hX ⊢
  have hA : ∀ q : Nat, s.heap.size ≤ q → A q := fun q h => by rw [← hAe]; exact Or.inr h
  have hS : va_S A s.heap s.heap [] := va_S.rf
  have hl := lv_entry ([.ref h0, .ref cu]) (n := 3) (Nat.le_of_ble_eq_true rfl)
  rw [lg_entry_eq]
  generalize (lg_sl ([.ref h0, .ref cu]) ++ List.replicate (3 - (lg_sl ([.ref h0, .ref cu])).length) Slot.unset).toArray = ls at hl ⊢
  have hl : lv_has ls 3 [(0, .ref h0), (1, .ref cu)] := hl
  have hP : va_P D vwCl [(h0, .inr (2, [.int fk, .int fp, .ref va, .ref tx, .int ln, .int nx, .int tk, .int st, .int vl])), (va, .inl (vc, 3, .inl fv)), (tx, .inl (tc, 400, .inl ft)), (cu, .inr (1, [.ref cu1, .ref cu2, .ref cu3, .ref cu4, .int sc, .int to])), (cu1, .inl (cc1, 8, .inl c1)), (cu2, .inl (cc2, 4, .inl c2)), (cu3, .inl (cc3, 4, .inl c3)), (cu4, .inl (cc4, 4, .inl c4))] s.heap := hP
  refine lv_aload_n hx hb dX2_readLine_0 rfl (lv_at hl 0 rfl) ?_
  refine mc_Vq (rest := []) (wr := [(va, .inl (vc, 3, .inl fv)), (cu, .inr (1, [.ref cu1, .ref cu2, .ref cu3, .ref cu4, .int sc, .int to])), (cu1, .inl (cc1, 8, .inl c1)), (cu2, .inl (cc2, 4, .inl c2)), (cu3, .inl (cc3, 4, .inl c3)), (cu4, .inl (cc4, 4, .inl c4))]) F hK hP hD hS hA (c_kindOfWord l D en kk h0 va tx fk fp ln nx tk st vl tc ft ) ⟨gk_X2_46.1, gk_X2_46.2, Nat.le_of_ble_eq_true rfl, Nat.le_of_ble_eq_true rfl⟩ [0, 2] [1, 3, 4, 5, 6, 7] [1] ⟨rfl, rfl, rfl, rfl, by decide⟩ rfl (xR_move en kk) (xR_use hX hS (va_free hD hS hA [0, 2] rfl)) 0 rfl rfl rfl hl.1 rfl (Nat.le_of_ble_eq_true rfl) dX2_readLine_1 ⟨Nat.le_of_ble_eq_true rfl, Nat.le_of_ble_eq_true rfl⟩ (fun r_1 _ H locs hw hK1 hP hD hS => ?_)
  have hP : va_P D vwCl [(va, .inl (vc, 3, .inl fv)), (cu, .inr (1, [.ref cu1, .ref cu2, .ref cu3, .ref cu4, .int sc, .int to])), (cu1, .inl (cc1, 8, .inl c1)), (cu2, .inl (cc2, 4, .inl c2)), (cu3, .inl (cc3, 4, .inl c3)), (cu4, .inl (cc4, 4, .inl c4)), (h0, .inr (2, [.int fk, .int fp, .ref va, .ref tx, .int ln, .int nx, .int tk, .int st, .int vl])), (tx, .inl (tc, 400, .inl ft))] H := hP
  have hD : va_D A [(va, .inl (vc, 3, .inl fv)), (cu, .inr (1, [.ref cu1, .ref cu2, .ref cu3, .ref cu4, .int sc, .int to])), (cu1, .inl (cc1, 8, .inl c1)), (cu2, .inl (cc2, 4, .inl c2)), (cu3, .inl (cc3, 4, .inl c3)), (cu4, .inl (cc4, 4, .inl c4)), (h0, .inr (2, [.int fk, .int fp, .ref va, .ref tx, .int ln, .int nx, .int tk, .int st, .int vl])), (tx, .inl (tc, 400, .inl ft))] := hD
  have hw_2 : r_1 = none ∨ ∃ j : Nat, j < 7 ∧ r_1 = some (en j) := hw
  rcases hw_2 with hq | ⟨jk_3, hjk_3, hq⟩
  · skip
    subst hq
    refine W.eq (g2 := F0 m 4 ls [.null]) rfl ?_
    refine lv_astore_nN (lv' := [(2, .null), (0, .ref h0), (1, .ref cu)]) hx hb dX2_readLine_4 rfl hl (by decide) rfl (fun ls hl => ?_)
    refine lv_aload_nN hx hb dX2_readLine_5 rfl (lv_at hl 0 rfl) ?_
    refine lv_ifnonnullN hx hb dX2_readLine_6 ?_
    refine lv_aload_n hx hb dX2_readLine_9 rfl (lv_at hl 1 rfl) ?_
    refine lv_iconst (v := 1) hx hb dX2_readLine_10 (by decide) ?_
    refine lv_aload_n hx hb dX2_readLine_11 rfl (lv_at hl 1 rfl) ?_
    refine va_get (D := D) (ci := 2) (v := .int st) (C := RX2) (T := TX2) (N := 9) hx hb hts inG_X2 hown hK hP 6 rfl rfl 7 (by decide) (hts _ kw_1_63) (fun _ h9 => h9) rfl dX2_readLine_12 ?_
    refine mc_Vi (rest := []) (wr := [(va, .inl (vc, 3, .inl fv)), (cu, .inr (1, [.ref cu1, .ref cu2, .ref cu3, .ref cu4, .int sc, .int to])), (cu1, .inl (cc1, 8, .inl c1)), (cu2, .inl (cc2, 4, .inl c2)), (cu3, .inl (cc3, 4, .inl c3)), (cu4, .inl (cc4, 4, .inl c4)), (tx, .inl (tc, 400, .inl ft))]) F hK hP hD hS hA (c_refuse l D h0 va tx fk fp ln nx tk st vl 1 st ) ⟨gk_X2_53.1, gk_X2_53.2, Nat.le_of_ble_eq_true rfl, Nat.le_of_ble_eq_true rfl⟩ [6] [0, 1, 2, 3, 4, 5, 7] [] ⟨rfl, rfl, rfl, rfl, by decide⟩ rfl xT_move (fun _ _ _ => trivial) 6 rfl rfl rfl hl.1 rfl (Nat.le_of_ble_eq_true rfl) dX2_readLine_15 ⟨Nat.le_of_ble_eq_true rfl, Nat.le_of_ble_eq_true rfl⟩ (fun r_4 _ H locs hw hK1 hP hD hS => ?_)
    have hP : va_P D vwCl [(va, .inl (vc, 3, .inl fv)), (cu, .inr (1, [.ref cu1, .ref cu2, .ref cu3, .ref cu4, .int sc, .int to])), (cu1, .inl (cc1, 8, .inl c1)), (cu2, .inl (cc2, 4, .inl c2)), (cu3, .inl (cc3, 4, .inl c3)), (cu4, .inl (cc4, 4, .inl c4)), (tx, .inl (tc, 400, .inl ft)), (h0, .inr (2, [.int 1, .int st, .ref va, .ref tx, .int ln, .int nx, .int tk, .int st, .int vl]))] H := hP
    have hD : va_D A [(va, .inl (vc, 3, .inl fv)), (cu, .inr (1, [.ref cu1, .ref cu2, .ref cu3, .ref cu4, .int sc, .int to])), (cu1, .inl (cc1, 8, .inl c1)), (cu2, .inl (cc2, 4, .inl c2)), (cu3, .inl (cc3, 4, .inl c3)), (cu4, .inl (cc4, 4, .inl c4)), (tx, .inl (tc, 400, .inl ft)), (h0, .inr (2, [.int 1, .int st, .ref va, .ref tx, .int ln, .int nx, .int tk, .int st, .int vl]))] := hD
    have hw_5 : r_4 = 0 := hw
    obtain rfl : r_4 = 0 := hw_5
    have hP9 := hP.sub (ws' := [(h0, .inr (2, [.int 1, .int st, .ref va, .ref tx, .int ln, .int nx, .int tk, .int st, .int vl])), (va, .inl (vc, 3, .inl fv)), (tx, .inl (tc, 400, .inl ft)), (cu, .inr (1, [.ref cu1, .ref cu2, .ref cu3, .ref cu4, .int sc, .int to])), (cu1, .inl (cc1, 8, .inl c1)), (cu2, .inl (cc2, 4, .inl c2)), (cu3, .inl (cc3, 4, .inl c3)), (cu4, .inl (cc4, 4, .inl c4))]) [7, 0, 6, 1, 2, 3, 4, 5] rfl
    have hD9 := hD.sub (ws' := [(h0, .inr (2, [.int 1, .int st, .ref va, .ref tx, .int ln, .int nx, .int tk, .int st, .int vl])), (va, .inl (vc, 3, .inl fv)), (tx, .inl (tc, 400, .inl ft)), (cu, .inr (1, [.ref cu1, .ref cu2, .ref cu3, .ref cu4, .int sc, .int to])), (cu1, .inl (cc1, 8, .inl c1)), (cu2, .inl (cc2, 4, .inl c2)), (cu3, .inl (cc3, 4, .inl c3)), (cu4, .inl (cc4, 4, .inl c4))]) [7, 0, 6, 1, 2, 3, 4, 5] (by decide) rfl
    have hK9 := hK.sub (tys' := []) [] rfl
    refine W.widen (k := 0) (n := 0) (by decide) (by decide) ?_
    exact W.zret (v := 0) hx hb hr rfl (fun t ht hW => ⟨⟨0, (1, st, nx, tk, st, vl, sc, to, fv, c1, c2, c3, c4), rfl, Or.inl rfl, by rw [ht]; exact hP9, va_K.moved hW.alike hK9, hD9⟩, hS.F ht⟩) hS.2.2 dX2_readLine_18
  · skip
    subst hq
    refine W.eq (g2 := F0 m 4 ls [.ref (en jk_3)]) rfl ?_
    refine lv_astore_n (lv' := [(2, .ref (en jk_3)), (0, .ref h0), (1, .ref cu)]) hx hb dX2_readLine_4 rfl hl (by decide) rfl (fun ls hl => ?_)
    refine lv_aload_n hx hb dX2_readLine_5 rfl (lv_at hl 0 rfl) ?_
    refine lv_ifnonnull (tgt := 19) hx hb dX2_readLine_6 (by decide) ?_
    refine lv_aload_n hx hb dX2_readLine_19 rfl (lv_at hl 0 rfl) ?_
    refine va_gets hx hb (C := RX5) (n := "STAIR") ((hX.2.1).1 6 (by decide)).1 hS hown (hts _ kw_2_197) (fun _ h9 => h9) dX2_readLine_20 ?_
    refine x_acmp_ne (tgt := 44) hx hb dX2_readLine_23 (by decide) (fun c_6 => ?_) (fun c_6 => ?_)
    · skip
      refine lv_aload_n hx hb dX2_readLine_44 rfl (lv_at hl 2 rfl) ?_
      refine lv_aload_n hx hb dX2_readLine_45 rfl (lv_at hl 0 rfl) ?_
      refine mc_Vi (rest := []) (wr := [(va, .inl (vc, 3, .inl fv)), (cu1, .inl (cc1, 8, .inl c1)), (cu2, .inl (cc2, 4, .inl c2)), (cu3, .inl (cc3, 4, .inl c3)), (cu4, .inl (cc4, 4, .inl c4)), (h0, .inr (2, [.int fk, .int fp, .ref va, .ref tx, .int ln, .int nx, .int tk, .int st, .int vl])), (tx, .inl (tc, 400, .inl ft))]) F hK hP hD hS hA (c_isTold l D en cu cu1 cu2 cu3 cu4 sc to jk_3 (by omega)) ⟨gk_X2_66.1, gk_X2_66.2, Nat.le_of_ble_eq_true rfl, Nat.le_of_ble_eq_true rfl⟩ [1] [0, 2, 3, 4, 5, 6, 7] [] ⟨rfl, rfl, rfl, rfl, by decide⟩ rfl (xN_move en) (xN_use hX.2.1 hS (va_free hD hS hA [1] rfl)) 1 rfl rfl rfl hl.1 rfl (Nat.le_of_ble_eq_true rfl) dX2_readLine_46 ⟨Nat.le_of_ble_eq_true rfl, Nat.le_of_ble_eq_true rfl⟩ (fun r_7 _ H locs hw hK1 hP hD hS => ?_)
      have hP : va_P D vwCl [(va, .inl (vc, 3, .inl fv)), (cu1, .inl (cc1, 8, .inl c1)), (cu2, .inl (cc2, 4, .inl c2)), (cu3, .inl (cc3, 4, .inl c3)), (cu4, .inl (cc4, 4, .inl c4)), (h0, .inr (2, [.int fk, .int fp, .ref va, .ref tx, .int ln, .int nx, .int tk, .int st, .int vl])), (tx, .inl (tc, 400, .inl ft)), (cu, .inr (1, [.ref cu1, .ref cu2, .ref cu3, .ref cu4, .int sc, .int to]))] H := hP
      have hD : va_D A [(va, .inl (vc, 3, .inl fv)), (cu1, .inl (cc1, 8, .inl c1)), (cu2, .inl (cc2, 4, .inl c2)), (cu3, .inl (cc3, 4, .inl c3)), (cu4, .inl (cc4, 4, .inl c4)), (h0, .inr (2, [.int fk, .int fp, .ref va, .ref tx, .int ln, .int nx, .int tk, .int st, .int vl])), (tx, .inl (tc, 400, .inl ft)), (cu, .inr (1, [.ref cu1, .ref cu2, .ref cu3, .ref cu4, .int sc, .int to]))] := hD
      have hw_8 : r_7 = 0 ∨ r_7 = 1 := hw
      refine lv_if_eq (tgt := 62) hx hb dX2_readLine_49 (by decide) (fun c_9 => ?_) (fun c_9 => ?_)
      · skip
        refine lv_aload_n hx hb dX2_readLine_62 rfl (lv_at hl 1 rfl) ?_
        refine lv_aload_n hx hb dX2_readLine_63 rfl (lv_at hl 0 rfl) ?_
        refine lv_aload_n hx hb dX2_readLine_64 rfl (lv_at hl 2 rfl) ?_
        refine mc_Vi (rest := []) (wr := [(cu1, .inl (cc1, 8, .inl c1)), (cu4, .inl (cc4, 4, .inl c4))]) F hK hP hD hS hA (c_readNumbers l D en h0 va tx cu cu1 cu2 cu3 cu4 tc vc cc2 cc3 ft c2 c3 sc to ln jk_3 fk fp nx tk st vl fv (by omega)) ⟨gk_X2_70.1, gk_X2_70.2, Nat.le_of_ble_eq_true rfl, Nat.le_of_ble_eq_true rfl⟩ [5, 0, 6, 7, 2, 3] [1, 4] [0, 1, 3, 4] ⟨rfl, rfl, rfl, rfl, by decide⟩ rfl (xN_move en) (xN_use hX.2.1 hS (va_free hD hS hA [5, 0, 6, 7, 2, 3] rfl)) 5 rfl rfl rfl hl.1 rfl (Nat.le_of_ble_eq_true rfl) dX2_readLine_65 ⟨Nat.le_of_ble_eq_true rfl, Nat.le_of_ble_eq_true rfl⟩ (fun r_17 u H locs hw hK1 hP hD hS => ?_)
        obtain ⟨fk1_10, fp1_11, nx1_12, tk1_13, st1_14, vl1_15, fv1_16⟩ := u
        have hP : va_P D vwCl [(cu1, .inl (cc1, 8, .inl c1)), (cu4, .inl (cc4, 4, .inl c4)), (h0, .inr (2, [.int fk1_10, .int fp1_11, .ref va, .ref tx, .int ln, .int nx1_12, .int tk1_13, .int st1_14, .int vl1_15])), (va, .inl (vc, 3, .inl fv1_16)), (tx, .inl (tc, 400, .inl ft)), (cu, .inr (1, [.ref cu1, .ref cu2, .ref cu3, .ref cu4, .int sc, .int to])), (cu2, .inl (cc2, 4, .inl c2)), (cu3, .inl (cc3, 4, .inl c3))] H := hP
        have hD : va_D A [(cu1, .inl (cc1, 8, .inl c1)), (cu4, .inl (cc4, 4, .inl c4)), (h0, .inr (2, [.int fk1_10, .int fp1_11, .ref va, .ref tx, .int ln, .int nx1_12, .int tk1_13, .int st1_14, .int vl1_15])), (va, .inl (vc, 3, .inl fv1_16)), (tx, .inl (tc, 400, .inl ft)), (cu, .inr (1, [.ref cu1, .ref cu2, .ref cu3, .ref cu4, .int sc, .int to])), (cu2, .inl (cc2, 4, .inl c2)), (cu3, .inl (cc3, 4, .inl c3))] := hD
        have hw_18 : r_17 = 0 ∨ r_17 = 1 := hw
        refine lv_if_ne (tgt := 73) hx hb dX2_readLine_68 (by decide) (fun c_19 => ?_) (fun c_19 => ?_)
        · skip
          refine lv_aload_n hx hb dX2_readLine_73 rfl (lv_at hl 1 rfl) ?_
          refine mc_Vv (rest := []) (wr := [(cu1, .inl (cc1, 8, .inl c1)), (cu4, .inl (cc4, 4, .inl c4)), (va, .inl (vc, 3, .inl fv1_16)), (cu, .inr (1, [.ref cu1, .ref cu2, .ref cu3, .ref cu4, .int sc, .int to])), (cu2, .inl (cc2, 4, .inl c2)), (cu3, .inl (cc3, 4, .inl c3))]) F hK hP hD hS hA (c_takeToken l D h0 va tx fk1_10 fp1_11 ln nx1_12 tk1_13 st1_14 vl1_15 tc ft ) ⟨gk_X2_36.1, gk_X2_36.2, Nat.le_of_ble_eq_true rfl, Nat.le_of_ble_eq_true rfl⟩ [2, 4] [0, 1, 3, 5, 6, 7] [1] ⟨rfl, rfl, rfl, rfl, by decide⟩ rfl xT_move (fun _ _ _ => trivial) 2 rfl rfl rfl hl.1 rfl (Nat.le_of_ble_eq_true rfl) dX2_readLine_74 ⟨Nat.le_of_ble_eq_true rfl, Nat.le_of_ble_eq_true rfl⟩ (fun u H locs hw hK1 hP hD hS => ?_)
          obtain ⟨nx1_20, tk1_21, st1_22, vl1_23⟩ := u
          have hP : va_P D vwCl [(cu1, .inl (cc1, 8, .inl c1)), (cu4, .inl (cc4, 4, .inl c4)), (va, .inl (vc, 3, .inl fv1_16)), (cu, .inr (1, [.ref cu1, .ref cu2, .ref cu3, .ref cu4, .int sc, .int to])), (cu2, .inl (cc2, 4, .inl c2)), (cu3, .inl (cc3, 4, .inl c3)), (h0, .inr (2, [.int fk1_10, .int fp1_11, .ref va, .ref tx, .int ln, .int nx1_20, .int tk1_21, .int st1_22, .int vl1_23])), (tx, .inl (tc, 400, .inl ft))] H := hP
          have hD : va_D A [(cu1, .inl (cc1, 8, .inl c1)), (cu4, .inl (cc4, 4, .inl c4)), (va, .inl (vc, 3, .inl fv1_16)), (cu, .inr (1, [.ref cu1, .ref cu2, .ref cu3, .ref cu4, .int sc, .int to])), (cu2, .inl (cc2, 4, .inl c2)), (cu3, .inl (cc3, 4, .inl c3)), (h0, .inr (2, [.int fk1_10, .int fp1_11, .ref va, .ref tx, .int ln, .int nx1_20, .int tk1_21, .int st1_22, .int vl1_23])), (tx, .inl (tc, 400, .inl ft))] := hD
          refine lv_aload_n hx hb dX2_readLine_77 rfl (lv_at hl 1 rfl) ?_
          refine va_get (D := D) (ci := 2) (v := .int tk1_21) (C := RX2) (T := TX2) (N := 9) hx hb hts inG_X2 hown hK hP 6 rfl rfl 6 (by decide) (hts _ kw_1_62) (fun _ h9 => h9) rfl dX2_readLine_78 ?_
          refine lv_iconst (v := 3) hx hb dX2_readLine_81 (by decide) ?_
          refine lv_icmp_eq (tgt := 95) hx hb dX2_readLine_82 (by decide) (fun c_26 => ?_) (fun c_26 => ?_)
          · skip
            refine lv_aload_n hx hb dX2_readLine_95 rfl (lv_at hl 2 rfl) ?_
            refine lv_aload_n hx hb dX2_readLine_96 rfl (lv_at hl 0 rfl) ?_
            refine lv_aload_n hx hb dX2_readLine_97 rfl (lv_at hl 1 rfl) ?_
            refine va_get (D := D) (ci := 2) (v := .ref va) (C := RX2) (T := TX2) (N := 9) hx hb hts inG_X2 hown hK hP 6 rfl rfl 2 (by decide) (hts _ kw_1_58) (fun _ h9 => h9) rfl dX2_readLine_98 ?_
            refine mc_Vv (rest := []) (wr := [(h0, .inr (2, [.int fk1_10, .int fp1_11, .ref va, .ref tx, .int ln, .int nx1_20, .int tk1_21, .int st1_22, .int vl1_23])), (tx, .inl (tc, 400, .inl ft))]) F hK hP hD hS hA (c_tell l D en cu cu1 cu2 cu3 cu4 va cc1 cc2 cc3 cc4 vc fv1_16 jk_3 c1 c2 c3 c4 sc to (by omega)) ⟨gk_X2_74.1, gk_X2_74.2, Nat.le_of_ble_eq_true rfl, Nat.le_of_ble_eq_true rfl⟩ [3, 0, 4, 5, 1, 2] [6, 7] [2, 3, 4, 5, 0] ⟨rfl, rfl, rfl, rfl, by decide⟩ rfl (xN_move en) (xN_use hX.2.1 hS (va_free hD hS hA [3, 0, 4, 5, 1, 2] rfl)) 3 rfl rfl rfl hl.1 rfl (Nat.le_of_ble_eq_true rfl) dX2_readLine_101 ⟨Nat.le_of_ble_eq_true rfl, Nat.le_of_ble_eq_true rfl⟩ (fun u H locs hw hK1 hP hD hS => ?_)
            obtain ⟨sc1_27, to1_28, d1_29, d2_30, d3_31, d4_32⟩ := u
            have hP : va_P D vwCl [(h0, .inr (2, [.int fk1_10, .int fp1_11, .ref va, .ref tx, .int ln, .int nx1_20, .int tk1_21, .int st1_22, .int vl1_23])), (tx, .inl (tc, 400, .inl ft)), (cu, .inr (1, [.ref cu1, .ref cu2, .ref cu3, .ref cu4, .int sc1_27, .int to1_28])), (cu1, .inl (cc1, 8, .inl d1_29)), (cu2, .inl (cc2, 4, .inl d2_30)), (cu3, .inl (cc3, 4, .inl d3_31)), (cu4, .inl (cc4, 4, .inl d4_32)), (va, .inl (vc, 3, .inl fv1_16))] H := hP
            have hD : va_D A [(h0, .inr (2, [.int fk1_10, .int fp1_11, .ref va, .ref tx, .int ln, .int nx1_20, .int tk1_21, .int st1_22, .int vl1_23])), (tx, .inl (tc, 400, .inl ft)), (cu, .inr (1, [.ref cu1, .ref cu2, .ref cu3, .ref cu4, .int sc1_27, .int to1_28])), (cu1, .inl (cc1, 8, .inl d1_29)), (cu2, .inl (cc2, 4, .inl d2_30)), (cu3, .inl (cc3, 4, .inl d3_31)), (cu4, .inl (cc4, 4, .inl d4_32)), (va, .inl (vc, 3, .inl fv1_16))] := hD
            refine lv_iconst (v := 1) hx hb dX2_readLine_104 (by decide) ?_
            have hP9 := hP.sub (ws' := [(h0, .inr (2, [.int fk1_10, .int fp1_11, .ref va, .ref tx, .int ln, .int nx1_20, .int tk1_21, .int st1_22, .int vl1_23])), (va, .inl (vc, 3, .inl fv1_16)), (tx, .inl (tc, 400, .inl ft)), (cu, .inr (1, [.ref cu1, .ref cu2, .ref cu3, .ref cu4, .int sc1_27, .int to1_28])), (cu1, .inl (cc1, 8, .inl d1_29)), (cu2, .inl (cc2, 4, .inl d2_30)), (cu3, .inl (cc3, 4, .inl d3_31)), (cu4, .inl (cc4, 4, .inl d4_32))]) [0, 7, 1, 2, 3, 4, 5, 6] rfl
            have hD9 := hD.sub (ws' := [(h0, .inr (2, [.int fk1_10, .int fp1_11, .ref va, .ref tx, .int ln, .int nx1_20, .int tk1_21, .int st1_22, .int vl1_23])), (va, .inl (vc, 3, .inl fv1_16)), (tx, .inl (tc, 400, .inl ft)), (cu, .inr (1, [.ref cu1, .ref cu2, .ref cu3, .ref cu4, .int sc1_27, .int to1_28])), (cu1, .inl (cc1, 8, .inl d1_29)), (cu2, .inl (cc2, 4, .inl d2_30)), (cu3, .inl (cc3, 4, .inl d3_31)), (cu4, .inl (cc4, 4, .inl d4_32))]) [0, 7, 1, 2, 3, 4, 5, 6] (by decide) rfl
            have hK9 := hK.sub (tys' := []) [] rfl
            refine W.widen (k := 0) (n := 0) (by decide) (by decide) ?_
            exact W.zret (v := 1) hx hb hr rfl (fun t ht hW => ⟨⟨1, (fk1_10, fp1_11, nx1_20, tk1_21, st1_22, vl1_23, sc1_27, to1_28, fv1_16, d1_29, d2_30, d3_31, d4_32), rfl, Or.inr rfl, by rw [ht]; exact hP9, va_K.moved hW.alike hK9, hD9⟩, hS.F ht⟩) hS.2.2 dX2_readLine_105
          · skip
            refine lv_aload_n hx hb dX2_readLine_85 rfl (lv_at hl 1 rfl) ?_
            refine lv_iconst (v := 1) hx hb dX2_readLine_86 (by decide) ?_
            refine lv_aload_n hx hb dX2_readLine_87 rfl (lv_at hl 1 rfl) ?_
            refine va_get (D := D) (ci := 2) (v := .int st1_22) (C := RX2) (T := TX2) (N := 9) hx hb hts inG_X2 hown hK hP 6 rfl rfl 7 (by decide) (hts _ kw_1_63) (fun _ h9 => h9) rfl dX2_readLine_88 ?_
            refine mc_Vi (rest := []) (wr := [(cu1, .inl (cc1, 8, .inl c1)), (cu4, .inl (cc4, 4, .inl c4)), (va, .inl (vc, 3, .inl fv1_16)), (cu, .inr (1, [.ref cu1, .ref cu2, .ref cu3, .ref cu4, .int sc, .int to])), (cu2, .inl (cc2, 4, .inl c2)), (cu3, .inl (cc3, 4, .inl c3)), (tx, .inl (tc, 400, .inl ft))]) F hK hP hD hS hA (c_refuse l D h0 va tx fk1_10 fp1_11 ln nx1_20 tk1_21 st1_22 vl1_23 1 st1_22 ) ⟨gk_X2_53.1, gk_X2_53.2, Nat.le_of_ble_eq_true rfl, Nat.le_of_ble_eq_true rfl⟩ [6] [0, 1, 2, 3, 4, 5, 7] [] ⟨rfl, rfl, rfl, rfl, by decide⟩ rfl xT_move (fun _ _ _ => trivial) 6 rfl rfl rfl hl.1 rfl (Nat.le_of_ble_eq_true rfl) dX2_readLine_91 ⟨Nat.le_of_ble_eq_true rfl, Nat.le_of_ble_eq_true rfl⟩ (fun r_35 _ H locs hw hK1 hP hD hS => ?_)
            have hP : va_P D vwCl [(cu1, .inl (cc1, 8, .inl c1)), (cu4, .inl (cc4, 4, .inl c4)), (va, .inl (vc, 3, .inl fv1_16)), (cu, .inr (1, [.ref cu1, .ref cu2, .ref cu3, .ref cu4, .int sc, .int to])), (cu2, .inl (cc2, 4, .inl c2)), (cu3, .inl (cc3, 4, .inl c3)), (tx, .inl (tc, 400, .inl ft)), (h0, .inr (2, [.int 1, .int st1_22, .ref va, .ref tx, .int ln, .int nx1_20, .int tk1_21, .int st1_22, .int vl1_23]))] H := hP
            have hD : va_D A [(cu1, .inl (cc1, 8, .inl c1)), (cu4, .inl (cc4, 4, .inl c4)), (va, .inl (vc, 3, .inl fv1_16)), (cu, .inr (1, [.ref cu1, .ref cu2, .ref cu3, .ref cu4, .int sc, .int to])), (cu2, .inl (cc2, 4, .inl c2)), (cu3, .inl (cc3, 4, .inl c3)), (tx, .inl (tc, 400, .inl ft)), (h0, .inr (2, [.int 1, .int st1_22, .ref va, .ref tx, .int ln, .int nx1_20, .int tk1_21, .int st1_22, .int vl1_23]))] := hD
            have hw_36 : r_35 = 0 := hw
            obtain rfl : r_35 = 0 := hw_36
            have hP9 := hP.sub (ws' := [(h0, .inr (2, [.int 1, .int st1_22, .ref va, .ref tx, .int ln, .int nx1_20, .int tk1_21, .int st1_22, .int vl1_23])), (va, .inl (vc, 3, .inl fv1_16)), (tx, .inl (tc, 400, .inl ft)), (cu, .inr (1, [.ref cu1, .ref cu2, .ref cu3, .ref cu4, .int sc, .int to])), (cu1, .inl (cc1, 8, .inl c1)), (cu2, .inl (cc2, 4, .inl c2)), (cu3, .inl (cc3, 4, .inl c3)), (cu4, .inl (cc4, 4, .inl c4))]) [7, 2, 6, 3, 0, 4, 5, 1] rfl
            have hD9 := hD.sub (ws' := [(h0, .inr (2, [.int 1, .int st1_22, .ref va, .ref tx, .int ln, .int nx1_20, .int tk1_21, .int st1_22, .int vl1_23])), (va, .inl (vc, 3, .inl fv1_16)), (tx, .inl (tc, 400, .inl ft)), (cu, .inr (1, [.ref cu1, .ref cu2, .ref cu3, .ref cu4, .int sc, .int to])), (cu1, .inl (cc1, 8, .inl c1)), (cu2, .inl (cc2, 4, .inl c2)), (cu3, .inl (cc3, 4, .inl c3)), (cu4, .inl (cc4, 4, .inl c4))]) [7, 2, 6, 3, 0, 4, 5, 1] (by decide) rfl
            have hK9 := hK.sub (tys' := []) [] rfl
            refine W.widen (k := 0) (n := 0) (by decide) (by decide) ?_
            exact W.zret (v := 0) hx hb hr rfl (fun t ht hW => ⟨⟨0, (1, st1_22, nx1_20, tk1_21, st1_22, vl1_23, sc, to, fv1_16, c1, c2, c3, c4), rfl, Or.inl rfl, by rw [ht]; exact hP9, va_K.moved hW.alike hK9, hD9⟩, hS.F ht⟩) hS.2.2 dX2_readLine_94
        · skip
          refine lv_iconst (v := 0) hx hb dX2_readLine_71 (by decide) ?_
          have hP9 := hP.sub (ws' := [(h0, .inr (2, [.int fk1_10, .int fp1_11, .ref va, .ref tx, .int ln, .int nx1_12, .int tk1_13, .int st1_14, .int vl1_15])), (va, .inl (vc, 3, .inl fv1_16)), (tx, .inl (tc, 400, .inl ft)), (cu, .inr (1, [.ref cu1, .ref cu2, .ref cu3, .ref cu4, .int sc, .int to])), (cu1, .inl (cc1, 8, .inl c1)), (cu2, .inl (cc2, 4, .inl c2)), (cu3, .inl (cc3, 4, .inl c3)), (cu4, .inl (cc4, 4, .inl c4))]) [2, 3, 4, 5, 0, 6, 7, 1] rfl
          have hD9 := hD.sub (ws' := [(h0, .inr (2, [.int fk1_10, .int fp1_11, .ref va, .ref tx, .int ln, .int nx1_12, .int tk1_13, .int st1_14, .int vl1_15])), (va, .inl (vc, 3, .inl fv1_16)), (tx, .inl (tc, 400, .inl ft)), (cu, .inr (1, [.ref cu1, .ref cu2, .ref cu3, .ref cu4, .int sc, .int to])), (cu1, .inl (cc1, 8, .inl c1)), (cu2, .inl (cc2, 4, .inl c2)), (cu3, .inl (cc3, 4, .inl c3)), (cu4, .inl (cc4, 4, .inl c4))]) [2, 3, 4, 5, 0, 6, 7, 1] (by decide) rfl
          have hK9 := hK.sub (tys' := []) [] rfl
          refine W.widen (k := 0) (n := 0) (by decide) (by decide) ?_
          exact W.zret (v := 0) hx hb hr rfl (fun t ht hW => ⟨⟨0, (fk1_10, fp1_11, nx1_12, tk1_13, st1_14, vl1_15, sc, to, fv1_16, c1, c2, c3, c4), rfl, Or.inl rfl, by rw [ht]; exact hP9, va_K.moved hW.alike hK9, hD9⟩, hS.F ht⟩) hS.2.2 dX2_readLine_72
      · skip
        refine lv_aload_n hx hb dX2_readLine_52 rfl (lv_at hl 1 rfl) ?_
        refine lv_iconst (v := 3) hx hb dX2_readLine_53 (by decide) ?_
        refine lv_aload_n hx hb dX2_readLine_54 rfl (lv_at hl 1 rfl) ?_
        refine va_get (D := D) (ci := 2) (v := .int st) (C := RX2) (T := TX2) (N := 9) hx hb hts inG_X2 hown hK hP 5 rfl rfl 7 (by decide) (hts _ kw_1_63) (fun _ h9 => h9) rfl dX2_readLine_55 ?_
        refine mc_Vi (rest := []) (wr := [(va, .inl (vc, 3, .inl fv)), (cu1, .inl (cc1, 8, .inl c1)), (cu2, .inl (cc2, 4, .inl c2)), (cu3, .inl (cc3, 4, .inl c3)), (cu4, .inl (cc4, 4, .inl c4)), (tx, .inl (tc, 400, .inl ft)), (cu, .inr (1, [.ref cu1, .ref cu2, .ref cu3, .ref cu4, .int sc, .int to]))]) F hK hP hD hS hA (c_refuse l D h0 va tx fk fp ln nx tk st vl 3 st ) ⟨gk_X2_53.1, gk_X2_53.2, Nat.le_of_ble_eq_true rfl, Nat.le_of_ble_eq_true rfl⟩ [5] [0, 1, 2, 3, 4, 6, 7] [] ⟨rfl, rfl, rfl, rfl, by decide⟩ rfl xT_move (fun _ _ _ => trivial) 5 rfl rfl rfl hl.1 rfl (Nat.le_of_ble_eq_true rfl) dX2_readLine_58 ⟨Nat.le_of_ble_eq_true rfl, Nat.le_of_ble_eq_true rfl⟩ (fun r_37 _ H locs hw hK1 hP hD hS => ?_)
        have hP : va_P D vwCl [(va, .inl (vc, 3, .inl fv)), (cu1, .inl (cc1, 8, .inl c1)), (cu2, .inl (cc2, 4, .inl c2)), (cu3, .inl (cc3, 4, .inl c3)), (cu4, .inl (cc4, 4, .inl c4)), (tx, .inl (tc, 400, .inl ft)), (cu, .inr (1, [.ref cu1, .ref cu2, .ref cu3, .ref cu4, .int sc, .int to])), (h0, .inr (2, [.int 3, .int st, .ref va, .ref tx, .int ln, .int nx, .int tk, .int st, .int vl]))] H := hP
        have hD : va_D A [(va, .inl (vc, 3, .inl fv)), (cu1, .inl (cc1, 8, .inl c1)), (cu2, .inl (cc2, 4, .inl c2)), (cu3, .inl (cc3, 4, .inl c3)), (cu4, .inl (cc4, 4, .inl c4)), (tx, .inl (tc, 400, .inl ft)), (cu, .inr (1, [.ref cu1, .ref cu2, .ref cu3, .ref cu4, .int sc, .int to])), (h0, .inr (2, [.int 3, .int st, .ref va, .ref tx, .int ln, .int nx, .int tk, .int st, .int vl]))] := hD
        have hw_38 : r_37 = 0 := hw
        obtain rfl : r_37 = 0 := hw_38
        have hP9 := hP.sub (ws' := [(h0, .inr (2, [.int 3, .int st, .ref va, .ref tx, .int ln, .int nx, .int tk, .int st, .int vl])), (va, .inl (vc, 3, .inl fv)), (tx, .inl (tc, 400, .inl ft)), (cu, .inr (1, [.ref cu1, .ref cu2, .ref cu3, .ref cu4, .int sc, .int to])), (cu1, .inl (cc1, 8, .inl c1)), (cu2, .inl (cc2, 4, .inl c2)), (cu3, .inl (cc3, 4, .inl c3)), (cu4, .inl (cc4, 4, .inl c4))]) [7, 0, 5, 6, 1, 2, 3, 4] rfl
        have hD9 := hD.sub (ws' := [(h0, .inr (2, [.int 3, .int st, .ref va, .ref tx, .int ln, .int nx, .int tk, .int st, .int vl])), (va, .inl (vc, 3, .inl fv)), (tx, .inl (tc, 400, .inl ft)), (cu, .inr (1, [.ref cu1, .ref cu2, .ref cu3, .ref cu4, .int sc, .int to])), (cu1, .inl (cc1, 8, .inl c1)), (cu2, .inl (cc2, 4, .inl c2)), (cu3, .inl (cc3, 4, .inl c3)), (cu4, .inl (cc4, 4, .inl c4))]) [7, 0, 5, 6, 1, 2, 3, 4] (by decide) rfl
        have hK9 := hK.sub (tys' := []) [] rfl
        refine W.widen (k := 0) (n := 0) (by decide) (by decide) ?_
        exact W.zret (v := 0) hx hb hr rfl (fun t ht hW => ⟨⟨0, (3, st, nx, tk, st, vl, sc, to, fv, c1, c2, c3, c4), rfl, Or.inl rfl, by rw [ht]; exact hP9, va_K.moved hW.alike hK9, hD9⟩, hS.F ht⟩) hS.2.2 dX2_readLine_61
    · skip
      refine lv_aload_n hx hb dX2_readLine_26 rfl (lv_at hl 2 rfl) ?_
      refine va_get (D := D) (ci := 1) (v := .int sc) (C := RX1) (T := TX1) (N := 6) hx hb hts inG_X1 hown hK hP 1 rfl rfl 4 (by decide) (hts _ kw_1_108) (fun _ h9 => h9) rfl dX2_readLine_27 ?_
      refine lv_iconst (v := 4) hx hb dX2_readLine_30 (by decide) ?_
      refine lv_icmp_lt (tgt := 44) hx hb dX2_readLine_31 (by decide) (fun c_39 => ?_) (fun c_39 => ?_)
      · skip
        refine lv_aload_n hx hb dX2_readLine_44 rfl (lv_at hl 2 rfl) ?_
        refine lv_aload_n hx hb dX2_readLine_45 rfl (lv_at hl 0 rfl) ?_
        refine mc_Vi (rest := []) (wr := [(va, .inl (vc, 3, .inl fv)), (cu1, .inl (cc1, 8, .inl c1)), (cu2, .inl (cc2, 4, .inl c2)), (cu3, .inl (cc3, 4, .inl c3)), (cu4, .inl (cc4, 4, .inl c4)), (h0, .inr (2, [.int fk, .int fp, .ref va, .ref tx, .int ln, .int nx, .int tk, .int st, .int vl])), (tx, .inl (tc, 400, .inl ft))]) F hK hP hD hS hA (c_isTold l D en cu cu1 cu2 cu3 cu4 sc to jk_3 (by omega)) ⟨gk_X2_66.1, gk_X2_66.2, Nat.le_of_ble_eq_true rfl, Nat.le_of_ble_eq_true rfl⟩ [1] [0, 2, 3, 4, 5, 6, 7] [] ⟨rfl, rfl, rfl, rfl, by decide⟩ rfl (xN_move en) (xN_use hX.2.1 hS (va_free hD hS hA [1] rfl)) 1 rfl rfl rfl hl.1 rfl (Nat.le_of_ble_eq_true rfl) dX2_readLine_46 ⟨Nat.le_of_ble_eq_true rfl, Nat.le_of_ble_eq_true rfl⟩ (fun r_40 _ H locs hw hK1 hP hD hS => ?_)
        have hP : va_P D vwCl [(va, .inl (vc, 3, .inl fv)), (cu1, .inl (cc1, 8, .inl c1)), (cu2, .inl (cc2, 4, .inl c2)), (cu3, .inl (cc3, 4, .inl c3)), (cu4, .inl (cc4, 4, .inl c4)), (h0, .inr (2, [.int fk, .int fp, .ref va, .ref tx, .int ln, .int nx, .int tk, .int st, .int vl])), (tx, .inl (tc, 400, .inl ft)), (cu, .inr (1, [.ref cu1, .ref cu2, .ref cu3, .ref cu4, .int sc, .int to]))] H := hP
        have hD : va_D A [(va, .inl (vc, 3, .inl fv)), (cu1, .inl (cc1, 8, .inl c1)), (cu2, .inl (cc2, 4, .inl c2)), (cu3, .inl (cc3, 4, .inl c3)), (cu4, .inl (cc4, 4, .inl c4)), (h0, .inr (2, [.int fk, .int fp, .ref va, .ref tx, .int ln, .int nx, .int tk, .int st, .int vl])), (tx, .inl (tc, 400, .inl ft)), (cu, .inr (1, [.ref cu1, .ref cu2, .ref cu3, .ref cu4, .int sc, .int to]))] := hD
        have hw_41 : r_40 = 0 ∨ r_40 = 1 := hw
        refine lv_if_eq (tgt := 62) hx hb dX2_readLine_49 (by decide) (fun c_42 => ?_) (fun c_42 => ?_)
        · skip
          refine lv_aload_n hx hb dX2_readLine_62 rfl (lv_at hl 1 rfl) ?_
          refine lv_aload_n hx hb dX2_readLine_63 rfl (lv_at hl 0 rfl) ?_
          refine lv_aload_n hx hb dX2_readLine_64 rfl (lv_at hl 2 rfl) ?_
          refine mc_Vi (rest := []) (wr := [(cu1, .inl (cc1, 8, .inl c1)), (cu4, .inl (cc4, 4, .inl c4))]) F hK hP hD hS hA (c_readNumbers l D en h0 va tx cu cu1 cu2 cu3 cu4 tc vc cc2 cc3 ft c2 c3 sc to ln jk_3 fk fp nx tk st vl fv (by omega)) ⟨gk_X2_70.1, gk_X2_70.2, Nat.le_of_ble_eq_true rfl, Nat.le_of_ble_eq_true rfl⟩ [5, 0, 6, 7, 2, 3] [1, 4] [0, 1, 3, 4] ⟨rfl, rfl, rfl, rfl, by decide⟩ rfl (xN_move en) (xN_use hX.2.1 hS (va_free hD hS hA [5, 0, 6, 7, 2, 3] rfl)) 5 rfl rfl rfl hl.1 rfl (Nat.le_of_ble_eq_true rfl) dX2_readLine_65 ⟨Nat.le_of_ble_eq_true rfl, Nat.le_of_ble_eq_true rfl⟩ (fun r_50 u H locs hw hK1 hP hD hS => ?_)
          obtain ⟨fk1_43, fp1_44, nx1_45, tk1_46, st1_47, vl1_48, fv1_49⟩ := u
          have hP : va_P D vwCl [(cu1, .inl (cc1, 8, .inl c1)), (cu4, .inl (cc4, 4, .inl c4)), (h0, .inr (2, [.int fk1_43, .int fp1_44, .ref va, .ref tx, .int ln, .int nx1_45, .int tk1_46, .int st1_47, .int vl1_48])), (va, .inl (vc, 3, .inl fv1_49)), (tx, .inl (tc, 400, .inl ft)), (cu, .inr (1, [.ref cu1, .ref cu2, .ref cu3, .ref cu4, .int sc, .int to])), (cu2, .inl (cc2, 4, .inl c2)), (cu3, .inl (cc3, 4, .inl c3))] H := hP
          have hD : va_D A [(cu1, .inl (cc1, 8, .inl c1)), (cu4, .inl (cc4, 4, .inl c4)), (h0, .inr (2, [.int fk1_43, .int fp1_44, .ref va, .ref tx, .int ln, .int nx1_45, .int tk1_46, .int st1_47, .int vl1_48])), (va, .inl (vc, 3, .inl fv1_49)), (tx, .inl (tc, 400, .inl ft)), (cu, .inr (1, [.ref cu1, .ref cu2, .ref cu3, .ref cu4, .int sc, .int to])), (cu2, .inl (cc2, 4, .inl c2)), (cu3, .inl (cc3, 4, .inl c3))] := hD
          have hw_51 : r_50 = 0 ∨ r_50 = 1 := hw
          refine lv_if_ne (tgt := 73) hx hb dX2_readLine_68 (by decide) (fun c_52 => ?_) (fun c_52 => ?_)
          · skip
            refine lv_aload_n hx hb dX2_readLine_73 rfl (lv_at hl 1 rfl) ?_
            refine mc_Vv (rest := []) (wr := [(cu1, .inl (cc1, 8, .inl c1)), (cu4, .inl (cc4, 4, .inl c4)), (va, .inl (vc, 3, .inl fv1_49)), (cu, .inr (1, [.ref cu1, .ref cu2, .ref cu3, .ref cu4, .int sc, .int to])), (cu2, .inl (cc2, 4, .inl c2)), (cu3, .inl (cc3, 4, .inl c3))]) F hK hP hD hS hA (c_takeToken l D h0 va tx fk1_43 fp1_44 ln nx1_45 tk1_46 st1_47 vl1_48 tc ft ) ⟨gk_X2_36.1, gk_X2_36.2, Nat.le_of_ble_eq_true rfl, Nat.le_of_ble_eq_true rfl⟩ [2, 4] [0, 1, 3, 5, 6, 7] [1] ⟨rfl, rfl, rfl, rfl, by decide⟩ rfl xT_move (fun _ _ _ => trivial) 2 rfl rfl rfl hl.1 rfl (Nat.le_of_ble_eq_true rfl) dX2_readLine_74 ⟨Nat.le_of_ble_eq_true rfl, Nat.le_of_ble_eq_true rfl⟩ (fun u H locs hw hK1 hP hD hS => ?_)
            obtain ⟨nx1_53, tk1_54, st1_55, vl1_56⟩ := u
            have hP : va_P D vwCl [(cu1, .inl (cc1, 8, .inl c1)), (cu4, .inl (cc4, 4, .inl c4)), (va, .inl (vc, 3, .inl fv1_49)), (cu, .inr (1, [.ref cu1, .ref cu2, .ref cu3, .ref cu4, .int sc, .int to])), (cu2, .inl (cc2, 4, .inl c2)), (cu3, .inl (cc3, 4, .inl c3)), (h0, .inr (2, [.int fk1_43, .int fp1_44, .ref va, .ref tx, .int ln, .int nx1_53, .int tk1_54, .int st1_55, .int vl1_56])), (tx, .inl (tc, 400, .inl ft))] H := hP
            have hD : va_D A [(cu1, .inl (cc1, 8, .inl c1)), (cu4, .inl (cc4, 4, .inl c4)), (va, .inl (vc, 3, .inl fv1_49)), (cu, .inr (1, [.ref cu1, .ref cu2, .ref cu3, .ref cu4, .int sc, .int to])), (cu2, .inl (cc2, 4, .inl c2)), (cu3, .inl (cc3, 4, .inl c3)), (h0, .inr (2, [.int fk1_43, .int fp1_44, .ref va, .ref tx, .int ln, .int nx1_53, .int tk1_54, .int st1_55, .int vl1_56])), (tx, .inl (tc, 400, .inl ft))] := hD
            refine lv_aload_n hx hb dX2_readLine_77 rfl (lv_at hl 1 rfl) ?_
            refine va_get (D := D) (ci := 2) (v := .int tk1_54) (C := RX2) (T := TX2) (N := 9) hx hb hts inG_X2 hown hK hP 6 rfl rfl 6 (by decide) (hts _ kw_1_62) (fun _ h9 => h9) rfl dX2_readLine_78 ?_
            refine lv_iconst (v := 3) hx hb dX2_readLine_81 (by decide) ?_
            refine lv_icmp_eq (tgt := 95) hx hb dX2_readLine_82 (by decide) (fun c_59 => ?_) (fun c_59 => ?_)
            · skip
              refine lv_aload_n hx hb dX2_readLine_95 rfl (lv_at hl 2 rfl) ?_
              refine lv_aload_n hx hb dX2_readLine_96 rfl (lv_at hl 0 rfl) ?_
              refine lv_aload_n hx hb dX2_readLine_97 rfl (lv_at hl 1 rfl) ?_
              refine va_get (D := D) (ci := 2) (v := .ref va) (C := RX2) (T := TX2) (N := 9) hx hb hts inG_X2 hown hK hP 6 rfl rfl 2 (by decide) (hts _ kw_1_58) (fun _ h9 => h9) rfl dX2_readLine_98 ?_
              refine mc_Vv (rest := []) (wr := [(h0, .inr (2, [.int fk1_43, .int fp1_44, .ref va, .ref tx, .int ln, .int nx1_53, .int tk1_54, .int st1_55, .int vl1_56])), (tx, .inl (tc, 400, .inl ft))]) F hK hP hD hS hA (c_tell l D en cu cu1 cu2 cu3 cu4 va cc1 cc2 cc3 cc4 vc fv1_49 jk_3 c1 c2 c3 c4 sc to (by omega)) ⟨gk_X2_74.1, gk_X2_74.2, Nat.le_of_ble_eq_true rfl, Nat.le_of_ble_eq_true rfl⟩ [3, 0, 4, 5, 1, 2] [6, 7] [2, 3, 4, 5, 0] ⟨rfl, rfl, rfl, rfl, by decide⟩ rfl (xN_move en) (xN_use hX.2.1 hS (va_free hD hS hA [3, 0, 4, 5, 1, 2] rfl)) 3 rfl rfl rfl hl.1 rfl (Nat.le_of_ble_eq_true rfl) dX2_readLine_101 ⟨Nat.le_of_ble_eq_true rfl, Nat.le_of_ble_eq_true rfl⟩ (fun u H locs hw hK1 hP hD hS => ?_)
              obtain ⟨sc1_60, to1_61, d1_62, d2_63, d3_64, d4_65⟩ := u
              have hP : va_P D vwCl [(h0, .inr (2, [.int fk1_43, .int fp1_44, .ref va, .ref tx, .int ln, .int nx1_53, .int tk1_54, .int st1_55, .int vl1_56])), (tx, .inl (tc, 400, .inl ft)), (cu, .inr (1, [.ref cu1, .ref cu2, .ref cu3, .ref cu4, .int sc1_60, .int to1_61])), (cu1, .inl (cc1, 8, .inl d1_62)), (cu2, .inl (cc2, 4, .inl d2_63)), (cu3, .inl (cc3, 4, .inl d3_64)), (cu4, .inl (cc4, 4, .inl d4_65)), (va, .inl (vc, 3, .inl fv1_49))] H := hP
              have hD : va_D A [(h0, .inr (2, [.int fk1_43, .int fp1_44, .ref va, .ref tx, .int ln, .int nx1_53, .int tk1_54, .int st1_55, .int vl1_56])), (tx, .inl (tc, 400, .inl ft)), (cu, .inr (1, [.ref cu1, .ref cu2, .ref cu3, .ref cu4, .int sc1_60, .int to1_61])), (cu1, .inl (cc1, 8, .inl d1_62)), (cu2, .inl (cc2, 4, .inl d2_63)), (cu3, .inl (cc3, 4, .inl d3_64)), (cu4, .inl (cc4, 4, .inl d4_65)), (va, .inl (vc, 3, .inl fv1_49))] := hD
              refine lv_iconst (v := 1) hx hb dX2_readLine_104 (by decide) ?_
              have hP9 := hP.sub (ws' := [(h0, .inr (2, [.int fk1_43, .int fp1_44, .ref va, .ref tx, .int ln, .int nx1_53, .int tk1_54, .int st1_55, .int vl1_56])), (va, .inl (vc, 3, .inl fv1_49)), (tx, .inl (tc, 400, .inl ft)), (cu, .inr (1, [.ref cu1, .ref cu2, .ref cu3, .ref cu4, .int sc1_60, .int to1_61])), (cu1, .inl (cc1, 8, .inl d1_62)), (cu2, .inl (cc2, 4, .inl d2_63)), (cu3, .inl (cc3, 4, .inl d3_64)), (cu4, .inl (cc4, 4, .inl d4_65))]) [0, 7, 1, 2, 3, 4, 5, 6] rfl
              have hD9 := hD.sub (ws' := [(h0, .inr (2, [.int fk1_43, .int fp1_44, .ref va, .ref tx, .int ln, .int nx1_53, .int tk1_54, .int st1_55, .int vl1_56])), (va, .inl (vc, 3, .inl fv1_49)), (tx, .inl (tc, 400, .inl ft)), (cu, .inr (1, [.ref cu1, .ref cu2, .ref cu3, .ref cu4, .int sc1_60, .int to1_61])), (cu1, .inl (cc1, 8, .inl d1_62)), (cu2, .inl (cc2, 4, .inl d2_63)), (cu3, .inl (cc3, 4, .inl d3_64)), (cu4, .inl (cc4, 4, .inl d4_65))]) [0, 7, 1, 2, 3, 4, 5, 6] (by decide) rfl
              have hK9 := hK.sub (tys' := []) [] rfl
              refine W.widen (k := 0) (n := 0) (by decide) (by decide) ?_
              exact W.zret (v := 1) hx hb hr rfl (fun t ht hW => ⟨⟨1, (fk1_43, fp1_44, nx1_53, tk1_54, st1_55, vl1_56, sc1_60, to1_61, fv1_49, d1_62, d2_63, d3_64, d4_65), rfl, Or.inr rfl, by rw [ht]; exact hP9, va_K.moved hW.alike hK9, hD9⟩, hS.F ht⟩) hS.2.2 dX2_readLine_105
            · skip
              refine lv_aload_n hx hb dX2_readLine_85 rfl (lv_at hl 1 rfl) ?_
              refine lv_iconst (v := 1) hx hb dX2_readLine_86 (by decide) ?_
              refine lv_aload_n hx hb dX2_readLine_87 rfl (lv_at hl 1 rfl) ?_
              refine va_get (D := D) (ci := 2) (v := .int st1_55) (C := RX2) (T := TX2) (N := 9) hx hb hts inG_X2 hown hK hP 6 rfl rfl 7 (by decide) (hts _ kw_1_63) (fun _ h9 => h9) rfl dX2_readLine_88 ?_
              refine mc_Vi (rest := []) (wr := [(cu1, .inl (cc1, 8, .inl c1)), (cu4, .inl (cc4, 4, .inl c4)), (va, .inl (vc, 3, .inl fv1_49)), (cu, .inr (1, [.ref cu1, .ref cu2, .ref cu3, .ref cu4, .int sc, .int to])), (cu2, .inl (cc2, 4, .inl c2)), (cu3, .inl (cc3, 4, .inl c3)), (tx, .inl (tc, 400, .inl ft))]) F hK hP hD hS hA (c_refuse l D h0 va tx fk1_43 fp1_44 ln nx1_53 tk1_54 st1_55 vl1_56 1 st1_55 ) ⟨gk_X2_53.1, gk_X2_53.2, Nat.le_of_ble_eq_true rfl, Nat.le_of_ble_eq_true rfl⟩ [6] [0, 1, 2, 3, 4, 5, 7] [] ⟨rfl, rfl, rfl, rfl, by decide⟩ rfl xT_move (fun _ _ _ => trivial) 6 rfl rfl rfl hl.1 rfl (Nat.le_of_ble_eq_true rfl) dX2_readLine_91 ⟨Nat.le_of_ble_eq_true rfl, Nat.le_of_ble_eq_true rfl⟩ (fun r_68 _ H locs hw hK1 hP hD hS => ?_)
              have hP : va_P D vwCl [(cu1, .inl (cc1, 8, .inl c1)), (cu4, .inl (cc4, 4, .inl c4)), (va, .inl (vc, 3, .inl fv1_49)), (cu, .inr (1, [.ref cu1, .ref cu2, .ref cu3, .ref cu4, .int sc, .int to])), (cu2, .inl (cc2, 4, .inl c2)), (cu3, .inl (cc3, 4, .inl c3)), (tx, .inl (tc, 400, .inl ft)), (h0, .inr (2, [.int 1, .int st1_55, .ref va, .ref tx, .int ln, .int nx1_53, .int tk1_54, .int st1_55, .int vl1_56]))] H := hP
              have hD : va_D A [(cu1, .inl (cc1, 8, .inl c1)), (cu4, .inl (cc4, 4, .inl c4)), (va, .inl (vc, 3, .inl fv1_49)), (cu, .inr (1, [.ref cu1, .ref cu2, .ref cu3, .ref cu4, .int sc, .int to])), (cu2, .inl (cc2, 4, .inl c2)), (cu3, .inl (cc3, 4, .inl c3)), (tx, .inl (tc, 400, .inl ft)), (h0, .inr (2, [.int 1, .int st1_55, .ref va, .ref tx, .int ln, .int nx1_53, .int tk1_54, .int st1_55, .int vl1_56]))] := hD
              have hw_69 : r_68 = 0 := hw
              obtain rfl : r_68 = 0 := hw_69
              have hP9 := hP.sub (ws' := [(h0, .inr (2, [.int 1, .int st1_55, .ref va, .ref tx, .int ln, .int nx1_53, .int tk1_54, .int st1_55, .int vl1_56])), (va, .inl (vc, 3, .inl fv1_49)), (tx, .inl (tc, 400, .inl ft)), (cu, .inr (1, [.ref cu1, .ref cu2, .ref cu3, .ref cu4, .int sc, .int to])), (cu1, .inl (cc1, 8, .inl c1)), (cu2, .inl (cc2, 4, .inl c2)), (cu3, .inl (cc3, 4, .inl c3)), (cu4, .inl (cc4, 4, .inl c4))]) [7, 2, 6, 3, 0, 4, 5, 1] rfl
              have hD9 := hD.sub (ws' := [(h0, .inr (2, [.int 1, .int st1_55, .ref va, .ref tx, .int ln, .int nx1_53, .int tk1_54, .int st1_55, .int vl1_56])), (va, .inl (vc, 3, .inl fv1_49)), (tx, .inl (tc, 400, .inl ft)), (cu, .inr (1, [.ref cu1, .ref cu2, .ref cu3, .ref cu4, .int sc, .int to])), (cu1, .inl (cc1, 8, .inl c1)), (cu2, .inl (cc2, 4, .inl c2)), (cu3, .inl (cc3, 4, .inl c3)), (cu4, .inl (cc4, 4, .inl c4))]) [7, 2, 6, 3, 0, 4, 5, 1] (by decide) rfl
              have hK9 := hK.sub (tys' := []) [] rfl
              refine W.widen (k := 0) (n := 0) (by decide) (by decide) ?_
              exact W.zret (v := 0) hx hb hr rfl (fun t ht hW => ⟨⟨0, (1, st1_55, nx1_53, tk1_54, st1_55, vl1_56, sc, to, fv1_49, c1, c2, c3, c4), rfl, Or.inl rfl, by rw [ht]; exact hP9, va_K.moved hW.alike hK9, hD9⟩, hS.F ht⟩) hS.2.2 dX2_readLine_94
          · skip
            refine lv_iconst (v := 0) hx hb dX2_readLine_71 (by decide) ?_
            have hP9 := hP.sub (ws' := [(h0, .inr (2, [.int fk1_43, .int fp1_44, .ref va, .ref tx, .int ln, .int nx1_45, .int tk1_46, .int st1_47, .int vl1_48])), (va, .inl (vc, 3, .inl fv1_49)), (tx, .inl (tc, 400, .inl ft)), (cu, .inr (1, [.ref cu1, .ref cu2, .ref cu3, .ref cu4, .int sc, .int to])), (cu1, .inl (cc1, 8, .inl c1)), (cu2, .inl (cc2, 4, .inl c2)), (cu3, .inl (cc3, 4, .inl c3)), (cu4, .inl (cc4, 4, .inl c4))]) [2, 3, 4, 5, 0, 6, 7, 1] rfl
            have hD9 := hD.sub (ws' := [(h0, .inr (2, [.int fk1_43, .int fp1_44, .ref va, .ref tx, .int ln, .int nx1_45, .int tk1_46, .int st1_47, .int vl1_48])), (va, .inl (vc, 3, .inl fv1_49)), (tx, .inl (tc, 400, .inl ft)), (cu, .inr (1, [.ref cu1, .ref cu2, .ref cu3, .ref cu4, .int sc, .int to])), (cu1, .inl (cc1, 8, .inl c1)), (cu2, .inl (cc2, 4, .inl c2)), (cu3, .inl (cc3, 4, .inl c3)), (cu4, .inl (cc4, 4, .inl c4))]) [2, 3, 4, 5, 0, 6, 7, 1] (by decide) rfl
            have hK9 := hK.sub (tys' := []) [] rfl
            refine W.widen (k := 0) (n := 0) (by decide) (by decide) ?_
            exact W.zret (v := 0) hx hb hr rfl (fun t ht hW => ⟨⟨0, (fk1_43, fp1_44, nx1_45, tk1_46, st1_47, vl1_48, sc, to, fv1_49, c1, c2, c3, c4), rfl, Or.inl rfl, by rw [ht]; exact hP9, va_K.moved hW.alike hK9, hD9⟩, hS.F ht⟩) hS.2.2 dX2_readLine_72
        · skip
          refine lv_aload_n hx hb dX2_readLine_52 rfl (lv_at hl 1 rfl) ?_
          refine lv_iconst (v := 3) hx hb dX2_readLine_53 (by decide) ?_
          refine lv_aload_n hx hb dX2_readLine_54 rfl (lv_at hl 1 rfl) ?_
          refine va_get (D := D) (ci := 2) (v := .int st) (C := RX2) (T := TX2) (N := 9) hx hb hts inG_X2 hown hK hP 5 rfl rfl 7 (by decide) (hts _ kw_1_63) (fun _ h9 => h9) rfl dX2_readLine_55 ?_
          refine mc_Vi (rest := []) (wr := [(va, .inl (vc, 3, .inl fv)), (cu1, .inl (cc1, 8, .inl c1)), (cu2, .inl (cc2, 4, .inl c2)), (cu3, .inl (cc3, 4, .inl c3)), (cu4, .inl (cc4, 4, .inl c4)), (tx, .inl (tc, 400, .inl ft)), (cu, .inr (1, [.ref cu1, .ref cu2, .ref cu3, .ref cu4, .int sc, .int to]))]) F hK hP hD hS hA (c_refuse l D h0 va tx fk fp ln nx tk st vl 3 st ) ⟨gk_X2_53.1, gk_X2_53.2, Nat.le_of_ble_eq_true rfl, Nat.le_of_ble_eq_true rfl⟩ [5] [0, 1, 2, 3, 4, 6, 7] [] ⟨rfl, rfl, rfl, rfl, by decide⟩ rfl xT_move (fun _ _ _ => trivial) 5 rfl rfl rfl hl.1 rfl (Nat.le_of_ble_eq_true rfl) dX2_readLine_58 ⟨Nat.le_of_ble_eq_true rfl, Nat.le_of_ble_eq_true rfl⟩ (fun r_70 _ H locs hw hK1 hP hD hS => ?_)
          have hP : va_P D vwCl [(va, .inl (vc, 3, .inl fv)), (cu1, .inl (cc1, 8, .inl c1)), (cu2, .inl (cc2, 4, .inl c2)), (cu3, .inl (cc3, 4, .inl c3)), (cu4, .inl (cc4, 4, .inl c4)), (tx, .inl (tc, 400, .inl ft)), (cu, .inr (1, [.ref cu1, .ref cu2, .ref cu3, .ref cu4, .int sc, .int to])), (h0, .inr (2, [.int 3, .int st, .ref va, .ref tx, .int ln, .int nx, .int tk, .int st, .int vl]))] H := hP
          have hD : va_D A [(va, .inl (vc, 3, .inl fv)), (cu1, .inl (cc1, 8, .inl c1)), (cu2, .inl (cc2, 4, .inl c2)), (cu3, .inl (cc3, 4, .inl c3)), (cu4, .inl (cc4, 4, .inl c4)), (tx, .inl (tc, 400, .inl ft)), (cu, .inr (1, [.ref cu1, .ref cu2, .ref cu3, .ref cu4, .int sc, .int to])), (h0, .inr (2, [.int 3, .int st, .ref va, .ref tx, .int ln, .int nx, .int tk, .int st, .int vl]))] := hD
          have hw_71 : r_70 = 0 := hw
          obtain rfl : r_70 = 0 := hw_71
          have hP9 := hP.sub (ws' := [(h0, .inr (2, [.int 3, .int st, .ref va, .ref tx, .int ln, .int nx, .int tk, .int st, .int vl])), (va, .inl (vc, 3, .inl fv)), (tx, .inl (tc, 400, .inl ft)), (cu, .inr (1, [.ref cu1, .ref cu2, .ref cu3, .ref cu4, .int sc, .int to])), (cu1, .inl (cc1, 8, .inl c1)), (cu2, .inl (cc2, 4, .inl c2)), (cu3, .inl (cc3, 4, .inl c3)), (cu4, .inl (cc4, 4, .inl c4))]) [7, 0, 5, 6, 1, 2, 3, 4] rfl
          have hD9 := hD.sub (ws' := [(h0, .inr (2, [.int 3, .int st, .ref va, .ref tx, .int ln, .int nx, .int tk, .int st, .int vl])), (va, .inl (vc, 3, .inl fv)), (tx, .inl (tc, 400, .inl ft)), (cu, .inr (1, [.ref cu1, .ref cu2, .ref cu3, .ref cu4, .int sc, .int to])), (cu1, .inl (cc1, 8, .inl c1)), (cu2, .inl (cc2, 4, .inl c2)), (cu3, .inl (cc3, 4, .inl c3)), (cu4, .inl (cc4, 4, .inl c4))]) [7, 0, 5, 6, 1, 2, 3, 4] (by decide) rfl
          have hK9 := hK.sub (tys' := []) [] rfl
          refine W.widen (k := 0) (n := 0) (by decide) (by decide) ?_
          exact W.zret (v := 0) hx hb hr rfl (fun t ht hW => ⟨⟨0, (3, st, nx, tk, st, vl, sc, to, fv, c1, c2, c3, c4), rfl, Or.inl rfl, by rw [ht]; exact hP9, va_K.moved hW.alike hK9, hD9⟩, hS.F ht⟩) hS.2.2 dX2_readLine_61
      · skip
        refine lv_aload_n hx hb dX2_readLine_34 rfl (lv_at hl 1 rfl) ?_
        refine lv_iconst (v := 2) hx hb dX2_readLine_35 (by decide) ?_
        refine lv_aload_n hx hb dX2_readLine_36 rfl (lv_at hl 1 rfl) ?_
        refine va_get (D := D) (ci := 2) (v := .int st) (C := RX2) (T := TX2) (N := 9) hx hb hts inG_X2 hown hK hP 6 rfl rfl 7 (by decide) (hts _ kw_1_63) (fun _ h9 => h9) rfl dX2_readLine_37 ?_
        refine mc_Vi (rest := []) (wr := [(va, .inl (vc, 3, .inl fv)), (cu, .inr (1, [.ref cu1, .ref cu2, .ref cu3, .ref cu4, .int sc, .int to])), (cu1, .inl (cc1, 8, .inl c1)), (cu2, .inl (cc2, 4, .inl c2)), (cu3, .inl (cc3, 4, .inl c3)), (cu4, .inl (cc4, 4, .inl c4)), (tx, .inl (tc, 400, .inl ft))]) F hK hP hD hS hA (c_refuse l D h0 va tx fk fp ln nx tk st vl 2 st ) ⟨gk_X2_53.1, gk_X2_53.2, Nat.le_of_ble_eq_true rfl, Nat.le_of_ble_eq_true rfl⟩ [6] [0, 1, 2, 3, 4, 5, 7] [] ⟨rfl, rfl, rfl, rfl, by decide⟩ rfl xT_move (fun _ _ _ => trivial) 6 rfl rfl rfl hl.1 rfl (Nat.le_of_ble_eq_true rfl) dX2_readLine_40 ⟨Nat.le_of_ble_eq_true rfl, Nat.le_of_ble_eq_true rfl⟩ (fun r_72 _ H locs hw hK1 hP hD hS => ?_)
        have hP : va_P D vwCl [(va, .inl (vc, 3, .inl fv)), (cu, .inr (1, [.ref cu1, .ref cu2, .ref cu3, .ref cu4, .int sc, .int to])), (cu1, .inl (cc1, 8, .inl c1)), (cu2, .inl (cc2, 4, .inl c2)), (cu3, .inl (cc3, 4, .inl c3)), (cu4, .inl (cc4, 4, .inl c4)), (tx, .inl (tc, 400, .inl ft)), (h0, .inr (2, [.int 2, .int st, .ref va, .ref tx, .int ln, .int nx, .int tk, .int st, .int vl]))] H := hP
        have hD : va_D A [(va, .inl (vc, 3, .inl fv)), (cu, .inr (1, [.ref cu1, .ref cu2, .ref cu3, .ref cu4, .int sc, .int to])), (cu1, .inl (cc1, 8, .inl c1)), (cu2, .inl (cc2, 4, .inl c2)), (cu3, .inl (cc3, 4, .inl c3)), (cu4, .inl (cc4, 4, .inl c4)), (tx, .inl (tc, 400, .inl ft)), (h0, .inr (2, [.int 2, .int st, .ref va, .ref tx, .int ln, .int nx, .int tk, .int st, .int vl]))] := hD
        have hw_73 : r_72 = 0 := hw
        obtain rfl : r_72 = 0 := hw_73
        have hP9 := hP.sub (ws' := [(h0, .inr (2, [.int 2, .int st, .ref va, .ref tx, .int ln, .int nx, .int tk, .int st, .int vl])), (va, .inl (vc, 3, .inl fv)), (tx, .inl (tc, 400, .inl ft)), (cu, .inr (1, [.ref cu1, .ref cu2, .ref cu3, .ref cu4, .int sc, .int to])), (cu1, .inl (cc1, 8, .inl c1)), (cu2, .inl (cc2, 4, .inl c2)), (cu3, .inl (cc3, 4, .inl c3)), (cu4, .inl (cc4, 4, .inl c4))]) [7, 0, 6, 1, 2, 3, 4, 5] rfl
        have hD9 := hD.sub (ws' := [(h0, .inr (2, [.int 2, .int st, .ref va, .ref tx, .int ln, .int nx, .int tk, .int st, .int vl])), (va, .inl (vc, 3, .inl fv)), (tx, .inl (tc, 400, .inl ft)), (cu, .inr (1, [.ref cu1, .ref cu2, .ref cu3, .ref cu4, .int sc, .int to])), (cu1, .inl (cc1, 8, .inl c1)), (cu2, .inl (cc2, 4, .inl c2)), (cu3, .inl (cc3, 4, .inl c3)), (cu4, .inl (cc4, 4, .inl c4))]) [7, 0, 6, 1, 2, 3, 4, 5] (by decide) rfl
        have hK9 := hK.sub (tys' := []) [] rfl
        refine W.widen (k := 0) (n := 0) (by decide) (by decide) ?_
        exact W.zret (v := 0) hx hb hr rfl (fun t ht hW => ⟨⟨0, (2, st, nx, tk, st, vl, sc, to, fv, c1, c2, c3, c4), rfl, Or.inl rfl, by rw [ht]; exact hP9, va_K.moved hW.alike hK9, hD9⟩, hS.F ht⟩) hS.2.2 dX2_readLine_43
set_option maxHeartbeats 4000000 in
set_option maxRecDepth 100000 in
theorem lp_read {p : Program} {l : Launch} {e : Env} {s : State} {m : MethodId} {args : Array Value} {below : List Frame} {meth : Method} {c : Code} {Q : State → Prop} {A : Nat → Prop} {D : va_G} (F : mFix p s m args c cX2_read 5 RX2) (hA : ∀ q, s.heap.size ≤ q → A q) (us : Nat) (en : Nat → Nat) (kk : Nat → Nat) (h0 : Nat) (va : Nat) (tx : Nat) (cu : Nat) (cu1 : Nat) (cu2 : Nat) (cu3 : Nat) (cu4 : Nat) (tc : ClassId) (vc : ClassId) (cc1 : ClassId) (cc2 : ClassId) (cc3 : ClassId) (cc4 : ClassId) (ft : Nat → Int32) (ln : Int32) (hK : va_K D vwCl [(vc, .int), (tc, .int), (cc1, .int), (cc2, .int), (cc3, .int), (cc4, .int)] s) (hX : (xC us en kk) A s)
    (kx_63 : ∀ (fk : Int32) (fp : Int32) (nx : Int32) (tk : Int32) (st : Int32) (vl : Int32) (sc : Int32) (to : Int32) (fv : Nat → Int32) (c1 : Nat → Int32) (c2 : Nat → Int32) (c3 : Nat → Int32) (c4 : Nat → Int32) (li : Int32), ∀ (H : Heap) (locs : List Loc), va_P D vwCl [(h0, .inr (2, [.int fk, .int fp, .ref va, .ref tx, .int ln, .int nx, .int tk, .int st, .int vl])), (va, .inl (vc, 3, .inl fv)), (tx, .inl (tc, 400, .inl ft)), (cu, .inr (1, [.ref cu1, .ref cu2, .ref cu3, .ref cu4, .int sc, .int to])), (cu1, .inl (cc1, 8, .inl c1)), (cu2, .inl (cc2, 4, .inl c2)), (cu3, .inl (cc3, 4, .inl c3)), (cu4, .inl (cc4, 4, .inl c4))] H → va_D A [(h0, .inr (2, [.int fk, .int fp, .ref va, .ref tx, .int ln, .int nx, .int tk, .int st, .int vl])), (va, .inl (vc, 3, .inl fv)), (tx, .inl (tc, 400, .inl ft)), (cu, .inr (1, [.ref cu1, .ref cu2, .ref cu3, .ref cu4, .int sc, .int to])), (cu1, .inl (cc1, 8, .inl c1)), (cu2, .inl (cc2, 4, .inl c2)), (cu3, .inl (cc3, 4, .inl c3)), (cu4, .inl (cc4, 4, .inl c4))] → va_S A s.heap H locs → ∀ ls : Array Slot, lv_has ls 5 [(4, .int li)] → W p l e ({ frames := 9, cells := 0, slots := 0, locals := 234 }) s m args below meth c H locs 0 0 Q (F0 m 63 ls []))
    (kx_74 : ∀ (fk : Int32) (fp : Int32) (nx : Int32) (tk : Int32) (st : Int32) (vl : Int32) (sc : Int32) (to : Int32) (fv : Nat → Int32) (c1 : Nat → Int32) (c2 : Nat → Int32) (c3 : Nat → Int32) (c4 : Nat → Int32), ∀ (H : Heap) (locs : List Loc), va_P D vwCl [(h0, .inr (2, [.int fk, .int fp, .ref va, .ref tx, .int ln, .int nx, .int tk, .int st, .int vl])), (va, .inl (vc, 3, .inl fv)), (tx, .inl (tc, 400, .inl ft)), (cu, .inr (1, [.ref cu1, .ref cu2, .ref cu3, .ref cu4, .int sc, .int to])), (cu1, .inl (cc1, 8, .inl c1)), (cu2, .inl (cc2, 4, .inl c2)), (cu3, .inl (cc3, 4, .inl c3)), (cu4, .inl (cc4, 4, .inl c4))] H → va_D A [(h0, .inr (2, [.int fk, .int fp, .ref va, .ref tx, .int ln, .int nx, .int tk, .int st, .int vl])), (va, .inl (vc, 3, .inl fv)), (tx, .inl (tc, 400, .inl ft)), (cu, .inr (1, [.ref cu1, .ref cu2, .ref cu3, .ref cu4, .int sc, .int to])), (cu1, .inl (cc1, 8, .inl c1)), (cu2, .inl (cc2, 4, .inl c2)), (cu3, .inl (cc3, 4, .inl c3)), (cu4, .inl (cc4, 4, .inl c4))] → va_S A s.heap H locs → ∀ ls : Array Slot, lv_has ls 5 [] → W p l e ({ frames := 9, cells := 0, slots := 0, locals := 234 }) s m args below meth c H locs 0 0 Q (F0 m 74 ls []))
    (kx_82 : ∀ (fk : Int32) (fp : Int32) (nx : Int32) (tk : Int32) (st : Int32) (vl : Int32) (sc : Int32) (to : Int32) (fv : Nat → Int32) (c1 : Nat → Int32) (c2 : Nat → Int32) (c3 : Nat → Int32) (c4 : Nat → Int32), ∀ (H : Heap) (locs : List Loc), va_P D vwCl [(h0, .inr (2, [.int fk, .int fp, .ref va, .ref tx, .int ln, .int nx, .int tk, .int st, .int vl])), (va, .inl (vc, 3, .inl fv)), (tx, .inl (tc, 400, .inl ft)), (cu, .inr (1, [.ref cu1, .ref cu2, .ref cu3, .ref cu4, .int sc, .int to])), (cu1, .inl (cc1, 8, .inl c1)), (cu2, .inl (cc2, 4, .inl c2)), (cu3, .inl (cc3, 4, .inl c3)), (cu4, .inl (cc4, 4, .inl c4))] H → va_D A [(h0, .inr (2, [.int fk, .int fp, .ref va, .ref tx, .int ln, .int nx, .int tk, .int st, .int vl])), (va, .inl (vc, 3, .inl fv)), (tx, .inl (tc, 400, .inl ft)), (cu, .inr (1, [.ref cu1, .ref cu2, .ref cu3, .ref cu4, .int sc, .int to])), (cu1, .inl (cc1, 8, .inl c1)), (cu2, .inl (cc2, 4, .inl c2)), (cu3, .inl (cc3, 4, .inl c3)), (cu4, .inl (cc4, 4, .inl c4))] → va_S A s.heap H locs → ∀ ls : Array Slot, lv_has ls 5 [] → W p l e ({ frames := 9, cells := 0, slots := 0, locals := 234 }) s m args below meth c H locs 0 0 Q (F0 m 82 ls [])) :
    ∀ n : Nat, ∀ (fk : Int32) (fp : Int32) (nx : Int32) (tk : Int32) (st : Int32) (vl : Int32) (sc : Int32) (to : Int32) (fv : Nat → Int32) (c1 : Nat → Int32) (c2 : Nat → Int32) (c3 : Nat → Int32) (c4 : Nat → Int32) (li : Int32), (ln ≤ 400) → ((ln.toInt + 1 - li.toInt).toNat) < n → ∀ (H : Heap) (locs : List Loc), va_P D vwCl [(h0, .inr (2, [.int fk, .int fp, .ref va, .ref tx, .int ln, .int nx, .int tk, .int st, .int vl])), (va, .inl (vc, 3, .inl fv)), (tx, .inl (tc, 400, .inl ft)), (cu, .inr (1, [.ref cu1, .ref cu2, .ref cu3, .ref cu4, .int sc, .int to])), (cu1, .inl (cc1, 8, .inl c1)), (cu2, .inl (cc2, 4, .inl c2)), (cu3, .inl (cc3, 4, .inl c3)), (cu4, .inl (cc4, 4, .inl c4))] H → va_D A [(h0, .inr (2, [.int fk, .int fp, .ref va, .ref tx, .int ln, .int nx, .int tk, .int st, .int vl])), (va, .inl (vc, 3, .inl fv)), (tx, .inl (tc, 400, .inl ft)), (cu, .inr (1, [.ref cu1, .ref cu2, .ref cu3, .ref cu4, .int sc, .int to])), (cu1, .inl (cc1, 8, .inl c1)), (cu2, .inl (cc2, 4, .inl c2)), (cu3, .inl (cc3, 4, .inl c3)), (cu4, .inl (cc4, 4, .inl c4))] → va_S A s.heap H locs → ∀ ls : Array Slot, lv_has ls 5 [(0, .ref h0), (3, .ref cu), (4, .int li)] → W p l e ({ frames := 9, cells := 0, slots := 0, locals := 234 }) s m args below meth c H locs 0 0 Q (F0 m 43 ls []) := by
  intro n
  induction n with
  | zero => intro fk fp nx tk st vl sc to fv c1 c2 c3 c4 li hln hn; exact absurd hn (Nat.not_lt_zero _)
  | succ n ih =>
    intro fk fp nx tk st vl sc to fv c1 c2 c3 c4 li hln hn H locs hP hD hS ls hl
    obtain ⟨hx, hb, hml, hown, hts⟩ := id F
    refine lv_iload hx hb dX2_read_43 (lv_at hl 2 rfl) ?_
    refine lv_aload_n hx hb dX2_read_45 rfl (lv_at hl 0 rfl) ?_
    refine va_get (D := D) (ci := 2) (v := .int ln) (C := RX2) (T := TX2) (N := 9) hx hb hts inG_X2 hown hK hP 0 rfl rfl 4 (by decide) (hts _ kw_1_60) (fun _ h9 => h9) rfl dX2_read_46 ?_
    refine lv_icmp_gt (tgt := 82) hx hb dX2_read_49 (by decide) (fun c_1 => ?_) (fun c_1 => ?_)
    · skip
      exact kx_82 fk fp nx tk st vl sc to fv c1 c2 c3 c4  H locs (hP.sub [0, 1, 2, 3, 4, 5, 6, 7] rfl) (hD.sub [0, 1, 2, 3, 4, 5, 6, 7] (by decide) rfl) hS ls (lv_sub hl [] rfl)
    · skip
      refine lv_aload_n hx hb dX2_read_52 rfl (lv_at hl 0 rfl) ?_
      refine mc_Vv (rest := []) (wr := [(va, .inl (vc, 3, .inl fv)), (cu, .inr (1, [.ref cu1, .ref cu2, .ref cu3, .ref cu4, .int sc, .int to])), (cu1, .inl (cc1, 8, .inl c1)), (cu2, .inl (cc2, 4, .inl c2)), (cu3, .inl (cc3, 4, .inl c3)), (cu4, .inl (cc4, 4, .inl c4))]) F hK hP hD hS hA (c_takeToken l D h0 va tx fk fp ln nx tk st vl tc ft ) ⟨gk_X2_36.1, gk_X2_36.2, Nat.le_of_ble_eq_true rfl, Nat.le_of_ble_eq_true rfl⟩ [0, 2] [1, 3, 4, 5, 6, 7] [1] ⟨rfl, rfl, rfl, rfl, by decide⟩ rfl xT_move (fun _ _ _ => trivial) 0 rfl rfl rfl hl.1 rfl (Nat.le_of_ble_eq_true rfl) dX2_read_53 ⟨Nat.le_of_ble_eq_true rfl, Nat.le_of_ble_eq_true rfl⟩ (fun u H locs hw hK1 hP hD hS => ?_)
      obtain ⟨nx1_2, tk1_3, st1_4, vl1_5⟩ := u
      have hP : va_P D vwCl [(va, .inl (vc, 3, .inl fv)), (cu, .inr (1, [.ref cu1, .ref cu2, .ref cu3, .ref cu4, .int sc, .int to])), (cu1, .inl (cc1, 8, .inl c1)), (cu2, .inl (cc2, 4, .inl c2)), (cu3, .inl (cc3, 4, .inl c3)), (cu4, .inl (cc4, 4, .inl c4)), (h0, .inr (2, [.int fk, .int fp, .ref va, .ref tx, .int ln, .int nx1_2, .int tk1_3, .int st1_4, .int vl1_5])), (tx, .inl (tc, 400, .inl ft))] H := hP
      have hD : va_D A [(va, .inl (vc, 3, .inl fv)), (cu, .inr (1, [.ref cu1, .ref cu2, .ref cu3, .ref cu4, .int sc, .int to])), (cu1, .inl (cc1, 8, .inl c1)), (cu2, .inl (cc2, 4, .inl c2)), (cu3, .inl (cc3, 4, .inl c3)), (cu4, .inl (cc4, 4, .inl c4)), (h0, .inr (2, [.int fk, .int fp, .ref va, .ref tx, .int ln, .int nx1_2, .int tk1_3, .int st1_4, .int vl1_5])), (tx, .inl (tc, 400, .inl ft))] := hD
      refine lv_aload_n hx hb dX2_read_56 rfl (lv_at hl 0 rfl) ?_
      refine va_get (D := D) (ci := 2) (v := .int tk1_3) (C := RX2) (T := TX2) (N := 9) hx hb hts inG_X2 hown hK hP 6 rfl rfl 6 (by decide) (hts _ kw_1_62) (fun _ h9 => h9) rfl dX2_read_57 ?_
      refine lv_if_ne (tgt := 66) hx hb dX2_read_60 (by decide) (fun c_8 => ?_) (fun c_8 => ?_)
      · skip
        refine lv_aload_n hx hb dX2_read_66 rfl (lv_at hl 0 rfl) ?_
        refine lv_aload_n hx hb dX2_read_67 rfl (lv_at hl 1 rfl) ?_
        refine mc_Vi (rest := []) (wr := []) F hK hP hD hS hA (c_readLine l D en kk h0 va tx cu cu1 cu2 cu3 cu4 tc vc cc1 cc2 cc3 cc4 ft ln fk fp nx1_2 tk1_3 st1_4 vl1_5 sc to fv c1 c2 c3 c4 ) ⟨gk_X2_42.1, gk_X2_42.2, Nat.le_of_ble_eq_true rfl, Nat.le_of_ble_eq_true rfl⟩ [6, 0, 7, 1, 2, 3, 4, 5] [] [0, 1, 2, 3, 4, 5] ⟨rfl, rfl, rfl, rfl, by decide⟩ rfl (xR_move en kk) (xR_use hX.2 hS (va_free hD hS hA [6, 0, 7, 1, 2, 3, 4, 5] rfl)) 6 rfl rfl rfl hl.1 rfl (Nat.le_of_ble_eq_true rfl) dX2_read_68 ⟨Nat.le_of_ble_eq_true rfl, Nat.le_of_ble_eq_true rfl⟩ (fun r_22 u H locs hw hK1 hP hD hS => ?_)
        obtain ⟨fk1_9, fp1_10, nx1_11, tk1_12, st1_13, vl1_14, sc1_15, to1_16, fv1_17, d1_18, d2_19, d3_20, d4_21⟩ := u
        have hP : va_P D vwCl [(h0, .inr (2, [.int fk1_9, .int fp1_10, .ref va, .ref tx, .int ln, .int nx1_11, .int tk1_12, .int st1_13, .int vl1_14])), (va, .inl (vc, 3, .inl fv1_17)), (tx, .inl (tc, 400, .inl ft)), (cu, .inr (1, [.ref cu1, .ref cu2, .ref cu3, .ref cu4, .int sc1_15, .int to1_16])), (cu1, .inl (cc1, 8, .inl d1_18)), (cu2, .inl (cc2, 4, .inl d2_19)), (cu3, .inl (cc3, 4, .inl d3_20)), (cu4, .inl (cc4, 4, .inl d4_21))] H := hP
        have hD : va_D A [(h0, .inr (2, [.int fk1_9, .int fp1_10, .ref va, .ref tx, .int ln, .int nx1_11, .int tk1_12, .int st1_13, .int vl1_14])), (va, .inl (vc, 3, .inl fv1_17)), (tx, .inl (tc, 400, .inl ft)), (cu, .inr (1, [.ref cu1, .ref cu2, .ref cu3, .ref cu4, .int sc1_15, .int to1_16])), (cu1, .inl (cc1, 8, .inl d1_18)), (cu2, .inl (cc2, 4, .inl d2_19)), (cu3, .inl (cc3, 4, .inl d3_20)), (cu4, .inl (cc4, 4, .inl d4_21))] := hD
        have hw_23 : r_22 = 0 ∨ r_22 = 1 := hw
        refine lv_if_ne (tgt := 76) hx hb dX2_read_71 (by decide) (fun c_24 => ?_) (fun c_24 => ?_)
        · skip
          obtain ⟨z_25, ez_25⟩ : ∃ y : Int32, y = li + 1 := ⟨_, rfl⟩
          refine lv_iinc (v := z_25) (lv' := [(4, .int z_25), (0, .ref h0), (3, .ref cu)]) hx hb dX2_read_76 hl (k := 2) rfl (by rw [ez_25]; rfl) (by decide) rfl (fun ls hl => ?_)
          refine lv_goto (tgt := 43) hx hb dX2_read_79 (by decide) ?_
          exact ih fk1_9 fp1_10 nx1_11 tk1_12 st1_13 vl1_14 sc1_15 to1_16 fv1_17 d1_18 d2_19 d3_20 d4_21 z_25 hln (Nat.lt_of_lt_of_le (by rw [ez_25]; exact inc_le (le400 hln) c_1) (Nat.le_of_lt_succ hn)) H locs (hP.sub [0, 1, 2, 3, 4, 5, 6, 7] rfl) (hD.sub [0, 1, 2, 3, 4, 5, 6, 7] (by decide) rfl) hS ls (lv_sub hl [1, 2, 0] rfl)
        · skip
          exact kx_74 fk1_9 fp1_10 nx1_11 tk1_12 st1_13 vl1_14 sc1_15 to1_16 fv1_17 d1_18 d2_19 d3_20 d4_21  H locs (hP.sub [0, 1, 2, 3, 4, 5, 6, 7] rfl) (hD.sub [0, 1, 2, 3, 4, 5, 6, 7] (by decide) rfl) hS ls (lv_sub hl [] rfl)
      · skip
        exact kx_63 fk fp nx1_2 tk1_3 st1_4 vl1_5 sc to fv c1 c2 c3 c4 li  H locs (hP.sub [6, 0, 7, 1, 2, 3, 4, 5] rfl) (hD.sub [6, 0, 7, 1, 2, 3, 4, 5] (by decide) rfl) hS ls (lv_sub hl [2] rfl)
set_option maxHeartbeats 4000000 in
set_option maxRecDepth 100000 in
theorem c_read (l : Launch) (D : va_G) (us : Nat) (en : Nat → Nat) (kk : Nat → Nat) (h0 : Nat) (va : Nat) (tx : Nat) (tx0 : Nat) (cu : Nat) (cu1 : Nat) (cu2 : Nat) (cu3 : Nat) (cu4 : Nat) (tc : ClassId) (vc : ClassId) (cc1 : ClassId) (cc2 : ClassId) (cc3 : ClassId) (cc4 : ClassId) (ft : Nat → Int32) (ln : Int32) (x : Int32) (fk : Int32) (fp : Int32) (nx : Int32) (tk : Int32) (st : Int32) (vl : Int32) (sc : Int32) (to : Int32) (fv : Nat → Int32) (c1 : Nat → Int32) (c2 : Nat → Int32) (c3 : Nat → Int32) (c4 : Nat → Int32) : cI l yX2_read (.code yX2_read cX2_read 5 (some .int)) ({ frames := 9, cells := 0, slots := 0, locals := 234 }) D [(vc, .int), (tc, .int), (cc1, .int), (cc2, .int), (cc3, .int), (cc4, .int)] [(h0, .inr (2, [.int fk, .int fp, .ref va, .ref tx0, .int ln, .int nx, .int tk, .int st, .int vl])), (va, .inl (vc, 3, .inl fv)), (tx, .inl (tc, 400, .inl ft)), (cu, .inr (1, [.ref cu1, .ref cu2, .ref cu3, .ref cu4, .int sc, .int to])), (cu1, .inl (cc1, 8, .inl c1)), (cu2, .inl (cc2, 4, .inl c2)), (cu3, .inl (cc3, 4, .inl c3)), (cu4, .inl (cc4, 4, .inl c4))] (xC us en kk) [.ref h0, .ref tx, .int x, .ref cu] (S := Int32 × Int32 × Int32 × Int32 × Int32 × Int32 × Int32 × Int32 × Int32 × (Nat → Int32) × (Nat → Int32) × (Nat → Int32) × (Nat → Int32) × (Nat → Int32)) (fun r u => match u with | (ln1, fk1, fp1, nx1, tk1, st1, vl1, sc1, to1, fv1, d1, d2, d3, d4) => r = r) (fun u => match u with | (ln1, fk1, fp1, nx1, tk1, st1, vl1, sc1, to1, fv1, d1, d2, d3, d4) => []) (fun u => match u with | (ln1, fk1, fp1, nx1, tk1, st1, vl1, sc1, to1, fv1, d1, d2, d3, d4) => [(h0, .inr (2, [.int fk1, .int fp1, .ref va, .ref tx, .int ln1, .int nx1, .int tk1, .int st1, .int vl1])), (va, .inl (vc, 3, .inl fv1)), (tx, .inl (tc, 400, .inl ft)), (cu, .inr (1, [.ref cu1, .ref cu2, .ref cu3, .ref cu4, .int sc1, .int to1])), (cu1, .inl (cc1, 8, .inl d1)), (cu2, .inl (cc2, 4, .inl d2)), (cu3, .inl (cc3, 4, .inl d3)), (cu4, .inl (cc4, 4, .inl d4))]) := by
  intro sz
  refine Met.ofW (cc := cX2_read) (maxL := 5) (ret := (some .int)) (by decide) rfl ?_
  intro p e s m args below meth c s₁ B hml hv
  obtain ⟨rfl, hsz, hP, hK, hD0, hX⟩ := hv
  have hx := B.exec
  have hb := B.bytes
  have hr := B.returns
  have hts0 := atoms_spec (ws := .code yX2_read cX2_read 5 (some .int) :: gw) B.pre
  have hts := fun (w : Cond) (h : w ∈ gw) => hts0 w (List.mem_cons_of_mem _ h)
  have hown : s.vm.findClass RX2 = some m.cls := findClass_of_methodNamed B.named
  have hlocks := B.notSynchronized
  have F : mFix p s m _ c cX2_read 5 RX2 := ⟨hx, hb, hml, hown, hts⟩
  subst hsz
  have hD := hD0.self (sz := s.heap.size)
  generalize hAe : va_A [(h0, .inr (2, [.int fk, .int fp, .ref va, .ref tx0, .int ln, .int nx, .int tk, .int st, .int vl])), (va, .inl (vc, 3, .inl fv)), (tx, .inl (tc, 400, .inl ft)), (cu, .inr (1, [.ref cu1, .ref cu2, .ref cu3, .ref cu4, .int sc, .int to])), (cu1, .inl (cc1, 8, .inl c1)), (cu2, .inl (cc2, 4, .inl c2)), (cu3, .inl (cc3, 4, .inl c3)), (cu4, .inl (cc4, 4, .inl c4))] s.heap.size = A at hD hX ⊢
  have hA : ∀ q : Nat, s.heap.size ≤ q → A q := fun q h => by rw [← hAe]; exact Or.inr h
  have hS : va_S A s.heap s.heap [] := va_S.rf
  have hl := lv_entry ([.ref h0, .ref tx, .int x, .ref cu]) (n := 5) (Nat.le_of_ble_eq_true rfl)
  rw [lg_entry_eq]
  generalize (lg_sl ([.ref h0, .ref tx, .int x, .ref cu]) ++ List.replicate (5 - (lg_sl ([.ref h0, .ref tx, .int x, .ref cu])).length) Slot.unset).toArray = ls at hl ⊢
  have hl : lv_has ls 5 [(0, .ref h0), (1, .ref tx), (2, .int x), (3, .ref cu)] := hl
  have hP : va_P D vwCl [(h0, .inr (2, [.int fk, .int fp, .ref va, .ref tx0, .int ln, .int nx, .int tk, .int st, .int vl])), (va, .inl (vc, 3, .inl fv)), (tx, .inl (tc, 400, .inl ft)), (cu, .inr (1, [.ref cu1, .ref cu2, .ref cu3, .ref cu4, .int sc, .int to])), (cu1, .inl (cc1, 8, .inl c1)), (cu2, .inl (cc2, 4, .inl c2)), (cu3, .inl (cc3, 4, .inl c3)), (cu4, .inl (cc4, 4, .inl c4))] s.heap := hP
  refine lv_aload_n hx hb dX2_read_0 rfl (lv_at hl 0 rfl) ?_
  refine lv_aload_n hx hb dX2_read_1 rfl (lv_at hl 1 rfl) ?_
  refine va_put (D := D) (ci := 2) (v := .ref tx) (ty := .array .int) (C := RX2) (T := TX2) (N := 9) hx hb hts inG_X2 tyX2 tyX2_ok nmX2 hown hK hP hD hS 0 rfl rfl 3 (by decide) (hts _ kw_1_59) (fun _ h9 => h9) rfl (by decide +kernel) rfl rfl (Nat.le_of_ble_eq_true rfl) dX2_read_2 (fun H locs hP hD hS => ?_)
  have hP : va_P D vwCl [(h0, .inr (2, [.int fk, .int fp, .ref va, .ref tx, .int ln, .int nx, .int tk, .int st, .int vl])), (va, .inl (vc, 3, .inl fv)), (tx, .inl (tc, 400, .inl ft)), (cu, .inr (1, [.ref cu1, .ref cu2, .ref cu3, .ref cu4, .int sc, .int to])), (cu1, .inl (cc1, 8, .inl c1)), (cu2, .inl (cc2, 4, .inl c2)), (cu3, .inl (cc3, 4, .inl c3)), (cu4, .inl (cc4, 4, .inl c4))] H := hP
  have hD : va_D A [(h0, .inr (2, [.int fk, .int fp, .ref va, .ref tx, .int ln, .int nx, .int tk, .int st, .int vl])), (va, .inl (vc, 3, .inl fv)), (tx, .inl (tc, 400, .inl ft)), (cu, .inr (1, [.ref cu1, .ref cu2, .ref cu3, .ref cu4, .int sc, .int to])), (cu1, .inl (cc1, 8, .inl c1)), (cu2, .inl (cc2, 4, .inl c2)), (cu3, .inl (cc3, 4, .inl c3)), (cu4, .inl (cc4, 4, .inl c4))] := hD
  refine lv_aload_n hx hb dX2_read_5 rfl (lv_at hl 0 rfl) ?_
  refine lv_iload_n hx hb dX2_read_6 rfl (lv_at hl 2 rfl) ?_
  refine lv_aload_n hx hb dX2_read_7 rfl (lv_at hl 1 rfl) ?_
  refine va_alen hx hb hK hP 2 1 rfl rfl (v := 400) rfl dX2_read_8 ?_
  refine lv_icmp_ge (tgt := 16) hx hb dX2_read_9 (by decide) (fun c_1 => ?_) (fun c_1 => ?_)
  · skip
    have c_1 := Int32.not_lt.mpr c_1
    refine lv_aload_n hx hb dX2_read_16 rfl (lv_at hl 1 rfl) ?_
    refine va_alen hx hb hK hP 2 1 rfl rfl (v := 400) rfl dX2_read_17 ?_
    refine va_put (D := D) (ci := 2) (v := .int 400) (ty := .int) (C := RX2) (T := TX2) (N := 9) hx hb hts inG_X2 tyX2 tyX2_ok nmX2 hown hK hP hD hS 0 rfl rfl 4 (by decide) (hts _ kw_1_60) (fun _ h9 => h9) rfl (by decide +kernel) rfl rfl (Nat.le_of_ble_eq_true rfl) dX2_read_18 (fun H locs hP hD hS => ?_)
    have hP : va_P D vwCl [(h0, .inr (2, [.int fk, .int fp, .ref va, .ref tx, .int 400, .int nx, .int tk, .int st, .int vl])), (va, .inl (vc, 3, .inl fv)), (tx, .inl (tc, 400, .inl ft)), (cu, .inr (1, [.ref cu1, .ref cu2, .ref cu3, .ref cu4, .int sc, .int to])), (cu1, .inl (cc1, 8, .inl c1)), (cu2, .inl (cc2, 4, .inl c2)), (cu3, .inl (cc3, 4, .inl c3)), (cu4, .inl (cc4, 4, .inl c4))] H := hP
    have hD : va_D A [(h0, .inr (2, [.int fk, .int fp, .ref va, .ref tx, .int 400, .int nx, .int tk, .int st, .int vl])), (va, .inl (vc, 3, .inl fv)), (tx, .inl (tc, 400, .inl ft)), (cu, .inr (1, [.ref cu1, .ref cu2, .ref cu3, .ref cu4, .int sc, .int to])), (cu1, .inl (cc1, 8, .inl c1)), (cu2, .inl (cc2, 4, .inl c2)), (cu3, .inl (cc3, 4, .inl c3)), (cu4, .inl (cc4, 4, .inl c4))] := hD
    refine lv_aload_n hx hb dX2_read_21 rfl (lv_at hl 0 rfl) ?_
    refine lv_iconst (v := 0) hx hb dX2_read_22 (by decide) ?_
    refine va_put (D := D) (ci := 2) (v := .int 0) (ty := .int) (C := RX2) (T := TX2) (N := 9) hx hb hts inG_X2 tyX2 tyX2_ok nmX2 hown hK hP hD hS 0 rfl rfl 5 (by decide) (hts _ kw_1_61) (fun _ h9 => h9) rfl (by decide +kernel) rfl rfl (Nat.le_of_ble_eq_true rfl) dX2_read_23 (fun H locs hP hD hS => ?_)
    have hP : va_P D vwCl [(h0, .inr (2, [.int fk, .int fp, .ref va, .ref tx, .int 400, .int 0, .int tk, .int st, .int vl])), (va, .inl (vc, 3, .inl fv)), (tx, .inl (tc, 400, .inl ft)), (cu, .inr (1, [.ref cu1, .ref cu2, .ref cu3, .ref cu4, .int sc, .int to])), (cu1, .inl (cc1, 8, .inl c1)), (cu2, .inl (cc2, 4, .inl c2)), (cu3, .inl (cc3, 4, .inl c3)), (cu4, .inl (cc4, 4, .inl c4))] H := hP
    have hD : va_D A [(h0, .inr (2, [.int fk, .int fp, .ref va, .ref tx, .int 400, .int 0, .int tk, .int st, .int vl])), (va, .inl (vc, 3, .inl fv)), (tx, .inl (tc, 400, .inl ft)), (cu, .inr (1, [.ref cu1, .ref cu2, .ref cu3, .ref cu4, .int sc, .int to])), (cu1, .inl (cc1, 8, .inl c1)), (cu2, .inl (cc2, 4, .inl c2)), (cu3, .inl (cc3, 4, .inl c3)), (cu4, .inl (cc4, 4, .inl c4))] := hD
    refine lv_aload_n hx hb dX2_read_26 rfl (lv_at hl 0 rfl) ?_
    refine lv_iconst (v := 0) hx hb dX2_read_27 (by decide) ?_
    refine va_put (D := D) (ci := 2) (v := .int 0) (ty := .int) (C := RX2) (T := TX2) (N := 9) hx hb hts inG_X2 tyX2 tyX2_ok nmX2 hown hK hP hD hS 0 rfl rfl 0 (by decide) (hts _ kw_1_54) (fun _ h9 => h9) rfl (by decide +kernel) rfl rfl (Nat.le_of_ble_eq_true rfl) dX2_read_28 (fun H locs hP hD hS => ?_)
    have hP : va_P D vwCl [(h0, .inr (2, [.int 0, .int fp, .ref va, .ref tx, .int 400, .int 0, .int tk, .int st, .int vl])), (va, .inl (vc, 3, .inl fv)), (tx, .inl (tc, 400, .inl ft)), (cu, .inr (1, [.ref cu1, .ref cu2, .ref cu3, .ref cu4, .int sc, .int to])), (cu1, .inl (cc1, 8, .inl c1)), (cu2, .inl (cc2, 4, .inl c2)), (cu3, .inl (cc3, 4, .inl c3)), (cu4, .inl (cc4, 4, .inl c4))] H := hP
    have hD : va_D A [(h0, .inr (2, [.int 0, .int fp, .ref va, .ref tx, .int 400, .int 0, .int tk, .int st, .int vl])), (va, .inl (vc, 3, .inl fv)), (tx, .inl (tc, 400, .inl ft)), (cu, .inr (1, [.ref cu1, .ref cu2, .ref cu3, .ref cu4, .int sc, .int to])), (cu1, .inl (cc1, 8, .inl c1)), (cu2, .inl (cc2, 4, .inl c2)), (cu3, .inl (cc3, 4, .inl c3)), (cu4, .inl (cc4, 4, .inl c4))] := hD
    refine lv_aload_n hx hb dX2_read_31 rfl (lv_at hl 0 rfl) ?_
    refine lv_iconst (v := -1) hx hb dX2_read_32 (by decide) ?_
    refine va_put (D := D) (ci := 2) (v := .int ((-1))) (ty := .int) (C := RX2) (T := TX2) (N := 9) hx hb hts inG_X2 tyX2 tyX2_ok nmX2 hown hK hP hD hS 0 rfl rfl 1 (by decide) (hts _ kw_1_56) (fun _ h9 => h9) rfl (by decide +kernel) rfl rfl (Nat.le_of_ble_eq_true rfl) dX2_read_33 (fun H locs hP hD hS => ?_)
    have hP : va_P D vwCl [(h0, .inr (2, [.int 0, .int ((-1)), .ref va, .ref tx, .int 400, .int 0, .int tk, .int st, .int vl])), (va, .inl (vc, 3, .inl fv)), (tx, .inl (tc, 400, .inl ft)), (cu, .inr (1, [.ref cu1, .ref cu2, .ref cu3, .ref cu4, .int sc, .int to])), (cu1, .inl (cc1, 8, .inl c1)), (cu2, .inl (cc2, 4, .inl c2)), (cu3, .inl (cc3, 4, .inl c3)), (cu4, .inl (cc4, 4, .inl c4))] H := hP
    have hD : va_D A [(h0, .inr (2, [.int 0, .int ((-1)), .ref va, .ref tx, .int 400, .int 0, .int tk, .int st, .int vl])), (va, .inl (vc, 3, .inl fv)), (tx, .inl (tc, 400, .inl ft)), (cu, .inr (1, [.ref cu1, .ref cu2, .ref cu3, .ref cu4, .int sc, .int to])), (cu1, .inl (cc1, 8, .inl c1)), (cu2, .inl (cc2, 4, .inl c2)), (cu3, .inl (cc3, 4, .inl c3)), (cu4, .inl (cc4, 4, .inl c4))] := hD
    refine lv_aload_n hx hb dX2_read_36 rfl (lv_at hl 3 rfl) ?_
    refine mc_Vv (rest := []) (wr := [(h0, .inr (2, [.int 0, .int ((-1)), .ref va, .ref tx, .int 400, .int 0, .int tk, .int st, .int vl])), (va, .inl (vc, 3, .inl fv)), (tx, .inl (tc, 400, .inl ft))]) F hK hP hD hS hA (c_Customs_forget l D us cu cu1 cu2 cu3 cu4 cc1 cc2 cc3 cc4 c1 c2 c3 c4 sc to ) ⟨gk_X2_31.1, gk_X2_31.2, Nat.le_of_ble_eq_true rfl, Nat.le_of_ble_eq_true rfl⟩ [3, 4, 5, 6, 7] [0, 1, 2] [2, 3, 4, 5] ⟨rfl, rfl, rfl, rfl, by decide⟩ rfl (xU_move us) (xU_use hX.1 hS (va_free hD hS hA [3, 4, 5, 6, 7] rfl)) 3 rfl rfl rfl hl.1 rfl (Nat.le_of_ble_eq_true rfl) dX2_read_37 ⟨Nat.le_of_ble_eq_true rfl, Nat.le_of_ble_eq_true rfl⟩ (fun _ H locs hw hK1 hP hD hS => ?_)
    have hP : va_P D vwCl [(h0, .inr (2, [.int 0, .int ((-1)), .ref va, .ref tx, .int 400, .int 0, .int tk, .int st, .int vl])), (va, .inl (vc, 3, .inl fv)), (tx, .inl (tc, 400, .inl ft)), (cu, .inr (1, [.ref cu1, .ref cu2, .ref cu3, .ref cu4, .int 0, .int 0])), (cu1, .inl (cc1, 8, .inl uF)), (cu2, .inl (cc2, 4, .inl c2)), (cu3, .inl (cc3, 4, .inl c3)), (cu4, .inl (cc4, 4, .inl c4))] H := hP
    have hD : va_D A [(h0, .inr (2, [.int 0, .int ((-1)), .ref va, .ref tx, .int 400, .int 0, .int tk, .int st, .int vl])), (va, .inl (vc, 3, .inl fv)), (tx, .inl (tc, 400, .inl ft)), (cu, .inr (1, [.ref cu1, .ref cu2, .ref cu3, .ref cu4, .int 0, .int 0])), (cu1, .inl (cc1, 8, .inl uF)), (cu2, .inl (cc2, 4, .inl c2)), (cu3, .inl (cc3, 4, .inl c3)), (cu4, .inl (cc4, 4, .inl c4))] := hD
    refine lv_iconst (v := 0) hx hb dX2_read_40 (by decide) ?_
    refine lv_istore (lv' := [(4, .int 0), (0, .ref h0), (1, .ref tx), (2, .int x), (3, .ref cu)]) hx hb dX2_read_41 hl (by decide) rfl (fun ls hl => ?_)
    refine lp_read F hA us en kk h0 va tx cu cu1 cu2 cu3 cu4 tc vc cc1 cc2 cc3 cc4 ft 400 (hK.sub [0, 1, 2, 3, 4, 5] rfl) hX (fun fk_4 fp_5 nx_6 tk_7 st_8 vl_9 sc_10 to_11 fv_12 c1_13 c2_14 c3_15 c4_16 li_17  H locs hP hD hS ls hl => ?_) (fun fk_18 fp_19 nx_20 tk_21 st_22 vl_23 sc_24 to_25 fv_26 c1_27 c2_28 c3_29 c4_30  H locs hP hD hS ls hl => ?_) (fun fk_31 fp_32 nx_33 tk_34 st_35 vl_36 sc_37 to_38 fv_39 c1_40 c2_41 c3_42 c4_43  H locs hP hD hS ls hl => ?_) _ 0 ((-1)) 0 tk st vl 0 0 fv uF c2 c3 c4 0 (by decide) (Nat.lt_succ_self _) _ _ (hP.sub [0, 1, 2, 3, 4, 5, 6, 7] rfl) (hD.sub [0, 1, 2, 3, 4, 5, 6, 7] (by decide) rfl) hS ls (lv_sub hl [1, 4, 0] rfl)
    · skip
      refine lv_iload hx hb dX2_read_63 (lv_at hl 0 rfl) ?_
      have hP9 := hP.sub (ws' := [(h0, .inr (2, [.int fk_4, .int fp_5, .ref va, .ref tx, .int 400, .int nx_6, .int tk_7, .int st_8, .int vl_9])), (va, .inl (vc, 3, .inl fv_12)), (tx, .inl (tc, 400, .inl ft)), (cu, .inr (1, [.ref cu1, .ref cu2, .ref cu3, .ref cu4, .int sc_10, .int to_11])), (cu1, .inl (cc1, 8, .inl c1_13)), (cu2, .inl (cc2, 4, .inl c2_14)), (cu3, .inl (cc3, 4, .inl c3_15)), (cu4, .inl (cc4, 4, .inl c4_16))]) [0, 1, 2, 3, 4, 5, 6, 7] rfl
      have hD9 := hD.sub (ws' := [(h0, .inr (2, [.int fk_4, .int fp_5, .ref va, .ref tx, .int 400, .int nx_6, .int tk_7, .int st_8, .int vl_9])), (va, .inl (vc, 3, .inl fv_12)), (tx, .inl (tc, 400, .inl ft)), (cu, .inr (1, [.ref cu1, .ref cu2, .ref cu3, .ref cu4, .int sc_10, .int to_11])), (cu1, .inl (cc1, 8, .inl c1_13)), (cu2, .inl (cc2, 4, .inl c2_14)), (cu3, .inl (cc3, 4, .inl c3_15)), (cu4, .inl (cc4, 4, .inl c4_16))]) [0, 1, 2, 3, 4, 5, 6, 7] (by decide) rfl
      have hK9 := hK.sub (tys' := []) [] rfl
      refine W.widen (k := 0) (n := 0) (by decide) (by decide) ?_
      exact W.iret (v := li_17) hx hb hr (fun t ht hW => ⟨⟨li_17, (400, fk_4, fp_5, nx_6, tk_7, st_8, vl_9, sc_10, to_11, fv_12, c1_13, c2_14, c3_15, c4_16), rfl, rfl, by rw [ht]; exact hP9, va_K.moved hW.alike hK9, hD9⟩, hS.F ht⟩) hS.2.2 dX2_read_65
    · skip
      refine lv_iconst (v := -1) hx hb dX2_read_74 (by decide) ?_
      have hP9 := hP.sub (ws' := [(h0, .inr (2, [.int fk_18, .int fp_19, .ref va, .ref tx, .int 400, .int nx_20, .int tk_21, .int st_22, .int vl_23])), (va, .inl (vc, 3, .inl fv_26)), (tx, .inl (tc, 400, .inl ft)), (cu, .inr (1, [.ref cu1, .ref cu2, .ref cu3, .ref cu4, .int sc_24, .int to_25])), (cu1, .inl (cc1, 8, .inl c1_27)), (cu2, .inl (cc2, 4, .inl c2_28)), (cu3, .inl (cc3, 4, .inl c3_29)), (cu4, .inl (cc4, 4, .inl c4_30))]) [0, 1, 2, 3, 4, 5, 6, 7] rfl
      have hD9 := hD.sub (ws' := [(h0, .inr (2, [.int fk_18, .int fp_19, .ref va, .ref tx, .int 400, .int nx_20, .int tk_21, .int st_22, .int vl_23])), (va, .inl (vc, 3, .inl fv_26)), (tx, .inl (tc, 400, .inl ft)), (cu, .inr (1, [.ref cu1, .ref cu2, .ref cu3, .ref cu4, .int sc_24, .int to_25])), (cu1, .inl (cc1, 8, .inl c1_27)), (cu2, .inl (cc2, 4, .inl c2_28)), (cu3, .inl (cc3, 4, .inl c3_29)), (cu4, .inl (cc4, 4, .inl c4_30))]) [0, 1, 2, 3, 4, 5, 6, 7] (by decide) rfl
      have hK9 := hK.sub (tys' := []) [] rfl
      refine W.widen (k := 0) (n := 0) (by decide) (by decide) ?_
      exact W.iret (v := (-1)) hx hb hr (fun t ht hW => ⟨⟨((-1)), (400, fk_18, fp_19, nx_20, tk_21, st_22, vl_23, sc_24, to_25, fv_26, c1_27, c2_28, c3_29, c4_30), rfl, rfl, by rw [ht]; exact hP9, va_K.moved hW.alike hK9, hD9⟩, hS.F ht⟩) hS.2.2 dX2_read_75
    · skip
      refine lv_iconst (v := -1) hx hb dX2_read_82 (by decide) ?_
      have hP9 := hP.sub (ws' := [(h0, .inr (2, [.int fk_31, .int fp_32, .ref va, .ref tx, .int 400, .int nx_33, .int tk_34, .int st_35, .int vl_36])), (va, .inl (vc, 3, .inl fv_39)), (tx, .inl (tc, 400, .inl ft)), (cu, .inr (1, [.ref cu1, .ref cu2, .ref cu3, .ref cu4, .int sc_37, .int to_38])), (cu1, .inl (cc1, 8, .inl c1_40)), (cu2, .inl (cc2, 4, .inl c2_41)), (cu3, .inl (cc3, 4, .inl c3_42)), (cu4, .inl (cc4, 4, .inl c4_43))]) [0, 1, 2, 3, 4, 5, 6, 7] rfl
      have hD9 := hD.sub (ws' := [(h0, .inr (2, [.int fk_31, .int fp_32, .ref va, .ref tx, .int 400, .int nx_33, .int tk_34, .int st_35, .int vl_36])), (va, .inl (vc, 3, .inl fv_39)), (tx, .inl (tc, 400, .inl ft)), (cu, .inr (1, [.ref cu1, .ref cu2, .ref cu3, .ref cu4, .int sc_37, .int to_38])), (cu1, .inl (cc1, 8, .inl c1_40)), (cu2, .inl (cc2, 4, .inl c2_41)), (cu3, .inl (cc3, 4, .inl c3_42)), (cu4, .inl (cc4, 4, .inl c4_43))]) [0, 1, 2, 3, 4, 5, 6, 7] (by decide) rfl
      have hK9 := hK.sub (tys' := []) [] rfl
      refine W.widen (k := 0) (n := 0) (by decide) (by decide) ?_
      exact W.iret (v := (-1)) hx hb hr (fun t ht hW => ⟨⟨((-1)), (400, fk_31, fp_32, nx_33, tk_34, st_35, vl_36, sc_37, to_38, fv_39, c1_40, c2_41, c3_42, c4_43), rfl, rfl, by rw [ht]; exact hP9, va_K.moved hW.alike hK9, hD9⟩, hS.F ht⟩) hS.2.2 dX2_read_83
  · skip
    have c_1 := Int32.not_le.mp c_1
    refine lv_iload_n hx hb dX2_read_12 rfl (lv_at hl 2 rfl) ?_
    refine lv_goto (tgt := 18) hx hb dX2_read_13 (by decide) ?_
    refine va_put (D := D) (ci := 2) (v := .int x) (ty := .int) (C := RX2) (T := TX2) (N := 9) hx hb hts inG_X2 tyX2 tyX2_ok nmX2 hown hK hP hD hS 0 rfl rfl 4 (by decide) (hts _ kw_1_60) (fun _ h9 => h9) rfl (by decide +kernel) rfl rfl (Nat.le_of_ble_eq_true rfl) dX2_read_18 (fun H locs hP hD hS => ?_)
    have hP : va_P D vwCl [(h0, .inr (2, [.int fk, .int fp, .ref va, .ref tx, .int x, .int nx, .int tk, .int st, .int vl])), (va, .inl (vc, 3, .inl fv)), (tx, .inl (tc, 400, .inl ft)), (cu, .inr (1, [.ref cu1, .ref cu2, .ref cu3, .ref cu4, .int sc, .int to])), (cu1, .inl (cc1, 8, .inl c1)), (cu2, .inl (cc2, 4, .inl c2)), (cu3, .inl (cc3, 4, .inl c3)), (cu4, .inl (cc4, 4, .inl c4))] H := hP
    have hD : va_D A [(h0, .inr (2, [.int fk, .int fp, .ref va, .ref tx, .int x, .int nx, .int tk, .int st, .int vl])), (va, .inl (vc, 3, .inl fv)), (tx, .inl (tc, 400, .inl ft)), (cu, .inr (1, [.ref cu1, .ref cu2, .ref cu3, .ref cu4, .int sc, .int to])), (cu1, .inl (cc1, 8, .inl c1)), (cu2, .inl (cc2, 4, .inl c2)), (cu3, .inl (cc3, 4, .inl c3)), (cu4, .inl (cc4, 4, .inl c4))] := hD
    refine lv_aload_n hx hb dX2_read_21 rfl (lv_at hl 0 rfl) ?_
    refine lv_iconst (v := 0) hx hb dX2_read_22 (by decide) ?_
    refine va_put (D := D) (ci := 2) (v := .int 0) (ty := .int) (C := RX2) (T := TX2) (N := 9) hx hb hts inG_X2 tyX2 tyX2_ok nmX2 hown hK hP hD hS 0 rfl rfl 5 (by decide) (hts _ kw_1_61) (fun _ h9 => h9) rfl (by decide +kernel) rfl rfl (Nat.le_of_ble_eq_true rfl) dX2_read_23 (fun H locs hP hD hS => ?_)
    have hP : va_P D vwCl [(h0, .inr (2, [.int fk, .int fp, .ref va, .ref tx, .int x, .int 0, .int tk, .int st, .int vl])), (va, .inl (vc, 3, .inl fv)), (tx, .inl (tc, 400, .inl ft)), (cu, .inr (1, [.ref cu1, .ref cu2, .ref cu3, .ref cu4, .int sc, .int to])), (cu1, .inl (cc1, 8, .inl c1)), (cu2, .inl (cc2, 4, .inl c2)), (cu3, .inl (cc3, 4, .inl c3)), (cu4, .inl (cc4, 4, .inl c4))] H := hP
    have hD : va_D A [(h0, .inr (2, [.int fk, .int fp, .ref va, .ref tx, .int x, .int 0, .int tk, .int st, .int vl])), (va, .inl (vc, 3, .inl fv)), (tx, .inl (tc, 400, .inl ft)), (cu, .inr (1, [.ref cu1, .ref cu2, .ref cu3, .ref cu4, .int sc, .int to])), (cu1, .inl (cc1, 8, .inl c1)), (cu2, .inl (cc2, 4, .inl c2)), (cu3, .inl (cc3, 4, .inl c3)), (cu4, .inl (cc4, 4, .inl c4))] := hD
    refine lv_aload_n hx hb dX2_read_26 rfl (lv_at hl 0 rfl) ?_
    refine lv_iconst (v := 0) hx hb dX2_read_27 (by decide) ?_
    refine va_put (D := D) (ci := 2) (v := .int 0) (ty := .int) (C := RX2) (T := TX2) (N := 9) hx hb hts inG_X2 tyX2 tyX2_ok nmX2 hown hK hP hD hS 0 rfl rfl 0 (by decide) (hts _ kw_1_54) (fun _ h9 => h9) rfl (by decide +kernel) rfl rfl (Nat.le_of_ble_eq_true rfl) dX2_read_28 (fun H locs hP hD hS => ?_)
    have hP : va_P D vwCl [(h0, .inr (2, [.int 0, .int fp, .ref va, .ref tx, .int x, .int 0, .int tk, .int st, .int vl])), (va, .inl (vc, 3, .inl fv)), (tx, .inl (tc, 400, .inl ft)), (cu, .inr (1, [.ref cu1, .ref cu2, .ref cu3, .ref cu4, .int sc, .int to])), (cu1, .inl (cc1, 8, .inl c1)), (cu2, .inl (cc2, 4, .inl c2)), (cu3, .inl (cc3, 4, .inl c3)), (cu4, .inl (cc4, 4, .inl c4))] H := hP
    have hD : va_D A [(h0, .inr (2, [.int 0, .int fp, .ref va, .ref tx, .int x, .int 0, .int tk, .int st, .int vl])), (va, .inl (vc, 3, .inl fv)), (tx, .inl (tc, 400, .inl ft)), (cu, .inr (1, [.ref cu1, .ref cu2, .ref cu3, .ref cu4, .int sc, .int to])), (cu1, .inl (cc1, 8, .inl c1)), (cu2, .inl (cc2, 4, .inl c2)), (cu3, .inl (cc3, 4, .inl c3)), (cu4, .inl (cc4, 4, .inl c4))] := hD
    refine lv_aload_n hx hb dX2_read_31 rfl (lv_at hl 0 rfl) ?_
    refine lv_iconst (v := -1) hx hb dX2_read_32 (by decide) ?_
    refine va_put (D := D) (ci := 2) (v := .int ((-1))) (ty := .int) (C := RX2) (T := TX2) (N := 9) hx hb hts inG_X2 tyX2 tyX2_ok nmX2 hown hK hP hD hS 0 rfl rfl 1 (by decide) (hts _ kw_1_56) (fun _ h9 => h9) rfl (by decide +kernel) rfl rfl (Nat.le_of_ble_eq_true rfl) dX2_read_33 (fun H locs hP hD hS => ?_)
    have hP : va_P D vwCl [(h0, .inr (2, [.int 0, .int ((-1)), .ref va, .ref tx, .int x, .int 0, .int tk, .int st, .int vl])), (va, .inl (vc, 3, .inl fv)), (tx, .inl (tc, 400, .inl ft)), (cu, .inr (1, [.ref cu1, .ref cu2, .ref cu3, .ref cu4, .int sc, .int to])), (cu1, .inl (cc1, 8, .inl c1)), (cu2, .inl (cc2, 4, .inl c2)), (cu3, .inl (cc3, 4, .inl c3)), (cu4, .inl (cc4, 4, .inl c4))] H := hP
    have hD : va_D A [(h0, .inr (2, [.int 0, .int ((-1)), .ref va, .ref tx, .int x, .int 0, .int tk, .int st, .int vl])), (va, .inl (vc, 3, .inl fv)), (tx, .inl (tc, 400, .inl ft)), (cu, .inr (1, [.ref cu1, .ref cu2, .ref cu3, .ref cu4, .int sc, .int to])), (cu1, .inl (cc1, 8, .inl c1)), (cu2, .inl (cc2, 4, .inl c2)), (cu3, .inl (cc3, 4, .inl c3)), (cu4, .inl (cc4, 4, .inl c4))] := hD
    refine lv_aload_n hx hb dX2_read_36 rfl (lv_at hl 3 rfl) ?_
    refine mc_Vv (rest := []) (wr := [(h0, .inr (2, [.int 0, .int ((-1)), .ref va, .ref tx, .int x, .int 0, .int tk, .int st, .int vl])), (va, .inl (vc, 3, .inl fv)), (tx, .inl (tc, 400, .inl ft))]) F hK hP hD hS hA (c_Customs_forget l D us cu cu1 cu2 cu3 cu4 cc1 cc2 cc3 cc4 c1 c2 c3 c4 sc to ) ⟨gk_X2_31.1, gk_X2_31.2, Nat.le_of_ble_eq_true rfl, Nat.le_of_ble_eq_true rfl⟩ [3, 4, 5, 6, 7] [0, 1, 2] [2, 3, 4, 5] ⟨rfl, rfl, rfl, rfl, by decide⟩ rfl (xU_move us) (xU_use hX.1 hS (va_free hD hS hA [3, 4, 5, 6, 7] rfl)) 3 rfl rfl rfl hl.1 rfl (Nat.le_of_ble_eq_true rfl) dX2_read_37 ⟨Nat.le_of_ble_eq_true rfl, Nat.le_of_ble_eq_true rfl⟩ (fun _ H locs hw hK1 hP hD hS => ?_)
    have hP : va_P D vwCl [(h0, .inr (2, [.int 0, .int ((-1)), .ref va, .ref tx, .int x, .int 0, .int tk, .int st, .int vl])), (va, .inl (vc, 3, .inl fv)), (tx, .inl (tc, 400, .inl ft)), (cu, .inr (1, [.ref cu1, .ref cu2, .ref cu3, .ref cu4, .int 0, .int 0])), (cu1, .inl (cc1, 8, .inl uF)), (cu2, .inl (cc2, 4, .inl c2)), (cu3, .inl (cc3, 4, .inl c3)), (cu4, .inl (cc4, 4, .inl c4))] H := hP
    have hD : va_D A [(h0, .inr (2, [.int 0, .int ((-1)), .ref va, .ref tx, .int x, .int 0, .int tk, .int st, .int vl])), (va, .inl (vc, 3, .inl fv)), (tx, .inl (tc, 400, .inl ft)), (cu, .inr (1, [.ref cu1, .ref cu2, .ref cu3, .ref cu4, .int 0, .int 0])), (cu1, .inl (cc1, 8, .inl uF)), (cu2, .inl (cc2, 4, .inl c2)), (cu3, .inl (cc3, 4, .inl c3)), (cu4, .inl (cc4, 4, .inl c4))] := hD
    refine lv_iconst (v := 0) hx hb dX2_read_40 (by decide) ?_
    refine lv_istore (lv' := [(4, .int 0), (0, .ref h0), (1, .ref tx), (2, .int x), (3, .ref cu)]) hx hb dX2_read_41 hl (by decide) rfl (fun ls hl => ?_)
    refine lp_read F hA us en kk h0 va tx cu cu1 cu2 cu3 cu4 tc vc cc1 cc2 cc3 cc4 ft x (hK.sub [0, 1, 2, 3, 4, 5] rfl) hX (fun fk_46 fp_47 nx_48 tk_49 st_50 vl_51 sc_52 to_53 fv_54 c1_55 c2_56 c3_57 c4_58 li_59  H locs hP hD hS ls hl => ?_) (fun fk_60 fp_61 nx_62 tk_63 st_64 vl_65 sc_66 to_67 fv_68 c1_69 c2_70 c3_71 c4_72  H locs hP hD hS ls hl => ?_) (fun fk_73 fp_74 nx_75 tk_76 st_77 vl_78 sc_79 to_80 fv_81 c1_82 c2_83 c3_84 c4_85  H locs hP hD hS ls hl => ?_) _ 0 ((-1)) 0 tk st vl 0 0 fv uF c2 c3 c4 0 (Int32.le_of_lt c_1) (Nat.lt_succ_self _) _ _ (hP.sub [0, 1, 2, 3, 4, 5, 6, 7] rfl) (hD.sub [0, 1, 2, 3, 4, 5, 6, 7] (by decide) rfl) hS ls (lv_sub hl [1, 4, 0] rfl)
    · skip
      refine lv_iload hx hb dX2_read_63 (lv_at hl 0 rfl) ?_
      have hP9 := hP.sub (ws' := [(h0, .inr (2, [.int fk_46, .int fp_47, .ref va, .ref tx, .int x, .int nx_48, .int tk_49, .int st_50, .int vl_51])), (va, .inl (vc, 3, .inl fv_54)), (tx, .inl (tc, 400, .inl ft)), (cu, .inr (1, [.ref cu1, .ref cu2, .ref cu3, .ref cu4, .int sc_52, .int to_53])), (cu1, .inl (cc1, 8, .inl c1_55)), (cu2, .inl (cc2, 4, .inl c2_56)), (cu3, .inl (cc3, 4, .inl c3_57)), (cu4, .inl (cc4, 4, .inl c4_58))]) [0, 1, 2, 3, 4, 5, 6, 7] rfl
      have hD9 := hD.sub (ws' := [(h0, .inr (2, [.int fk_46, .int fp_47, .ref va, .ref tx, .int x, .int nx_48, .int tk_49, .int st_50, .int vl_51])), (va, .inl (vc, 3, .inl fv_54)), (tx, .inl (tc, 400, .inl ft)), (cu, .inr (1, [.ref cu1, .ref cu2, .ref cu3, .ref cu4, .int sc_52, .int to_53])), (cu1, .inl (cc1, 8, .inl c1_55)), (cu2, .inl (cc2, 4, .inl c2_56)), (cu3, .inl (cc3, 4, .inl c3_57)), (cu4, .inl (cc4, 4, .inl c4_58))]) [0, 1, 2, 3, 4, 5, 6, 7] (by decide) rfl
      have hK9 := hK.sub (tys' := []) [] rfl
      refine W.widen (k := 0) (n := 0) (by decide) (by decide) ?_
      exact W.iret (v := li_59) hx hb hr (fun t ht hW => ⟨⟨li_59, (x, fk_46, fp_47, nx_48, tk_49, st_50, vl_51, sc_52, to_53, fv_54, c1_55, c2_56, c3_57, c4_58), rfl, rfl, by rw [ht]; exact hP9, va_K.moved hW.alike hK9, hD9⟩, hS.F ht⟩) hS.2.2 dX2_read_65
    · skip
      refine lv_iconst (v := -1) hx hb dX2_read_74 (by decide) ?_
      have hP9 := hP.sub (ws' := [(h0, .inr (2, [.int fk_60, .int fp_61, .ref va, .ref tx, .int x, .int nx_62, .int tk_63, .int st_64, .int vl_65])), (va, .inl (vc, 3, .inl fv_68)), (tx, .inl (tc, 400, .inl ft)), (cu, .inr (1, [.ref cu1, .ref cu2, .ref cu3, .ref cu4, .int sc_66, .int to_67])), (cu1, .inl (cc1, 8, .inl c1_69)), (cu2, .inl (cc2, 4, .inl c2_70)), (cu3, .inl (cc3, 4, .inl c3_71)), (cu4, .inl (cc4, 4, .inl c4_72))]) [0, 1, 2, 3, 4, 5, 6, 7] rfl
      have hD9 := hD.sub (ws' := [(h0, .inr (2, [.int fk_60, .int fp_61, .ref va, .ref tx, .int x, .int nx_62, .int tk_63, .int st_64, .int vl_65])), (va, .inl (vc, 3, .inl fv_68)), (tx, .inl (tc, 400, .inl ft)), (cu, .inr (1, [.ref cu1, .ref cu2, .ref cu3, .ref cu4, .int sc_66, .int to_67])), (cu1, .inl (cc1, 8, .inl c1_69)), (cu2, .inl (cc2, 4, .inl c2_70)), (cu3, .inl (cc3, 4, .inl c3_71)), (cu4, .inl (cc4, 4, .inl c4_72))]) [0, 1, 2, 3, 4, 5, 6, 7] (by decide) rfl
      have hK9 := hK.sub (tys' := []) [] rfl
      refine W.widen (k := 0) (n := 0) (by decide) (by decide) ?_
      exact W.iret (v := (-1)) hx hb hr (fun t ht hW => ⟨⟨((-1)), (x, fk_60, fp_61, nx_62, tk_63, st_64, vl_65, sc_66, to_67, fv_68, c1_69, c2_70, c3_71, c4_72), rfl, rfl, by rw [ht]; exact hP9, va_K.moved hW.alike hK9, hD9⟩, hS.F ht⟩) hS.2.2 dX2_read_75
    · skip
      refine lv_iconst (v := -1) hx hb dX2_read_82 (by decide) ?_
      have hP9 := hP.sub (ws' := [(h0, .inr (2, [.int fk_73, .int fp_74, .ref va, .ref tx, .int x, .int nx_75, .int tk_76, .int st_77, .int vl_78])), (va, .inl (vc, 3, .inl fv_81)), (tx, .inl (tc, 400, .inl ft)), (cu, .inr (1, [.ref cu1, .ref cu2, .ref cu3, .ref cu4, .int sc_79, .int to_80])), (cu1, .inl (cc1, 8, .inl c1_82)), (cu2, .inl (cc2, 4, .inl c2_83)), (cu3, .inl (cc3, 4, .inl c3_84)), (cu4, .inl (cc4, 4, .inl c4_85))]) [0, 1, 2, 3, 4, 5, 6, 7] rfl
      have hD9 := hD.sub (ws' := [(h0, .inr (2, [.int fk_73, .int fp_74, .ref va, .ref tx, .int x, .int nx_75, .int tk_76, .int st_77, .int vl_78])), (va, .inl (vc, 3, .inl fv_81)), (tx, .inl (tc, 400, .inl ft)), (cu, .inr (1, [.ref cu1, .ref cu2, .ref cu3, .ref cu4, .int sc_79, .int to_80])), (cu1, .inl (cc1, 8, .inl c1_82)), (cu2, .inl (cc2, 4, .inl c2_83)), (cu3, .inl (cc3, 4, .inl c3_84)), (cu4, .inl (cc4, 4, .inl c4_85))]) [0, 1, 2, 3, 4, 5, 6, 7] (by decide) rfl
      have hK9 := hK.sub (tys' := []) [] rfl
      refine W.widen (k := 0) (n := 0) (by decide) (by decide) ?_
      exact W.iret (v := (-1)) hx hb hr (fun t ht hW => ⟨⟨((-1)), (x, fk_73, fp_74, nx_75, tk_76, st_77, vl_78, sc_79, to_80, fv_81, c1_82, c2_83, c3_84, c4_85), rfl, rfl, by rw [ht]; exact hP9, va_K.moved hW.alike hK9, hD9⟩, hS.F ht⟩) hS.2.2 dX2_read_83
