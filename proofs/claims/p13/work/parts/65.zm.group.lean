set_option maxHeartbeats 4000000 in
set_option maxRecDepth 100000 in
theorem lp_s_note_in {p : Program} {l : Launch} {e : Env} {s : State} {m : MethodId} {args : Array Value} {below : List Frame} {meth : Method} {c : Code} {Q : State → Prop} {A : Nat → Prop} {D : va_G} (F : mFix p s m args c cX8_noteFirstSteps 6 RX8) (hA : ∀ q, s.heap.size ≤ q → A q) (h0 : Nat) (fa : Nat) (cu : Nat) (rv : Nat) (bt : Nat) (wy1 : Nat) (wy2 : Nat) (wy3 : Nat) (wy4 : Nat) (cu1 : Nat) (cu2 : Nat) (cu3 : Nat) (cu4 : Nat) (wc3 : ClassId) (s3 : Nat → Int32) (qd : Int32) (cr : Int32) (sc : Int32) (to : Int32) (bc : Nat) (ho : Int32) (fe : Int32) (wc4 : ClassId) (t4 : Nat → Int32) (g : Nat) (t : Nat) (sn : Nat) (dd : Nat → Nat → Nat) (hK : va_K D vwCl [(wc3, .int), (wc4, .int)] s)
    (kx_74 : ∀ (fs : Int32), (fs = dv (fsN dd g t bc)) → ∀ (H : Heap) (locs : List Loc), va_P D vwCl [(h0, Sum.inr (7, [Value.ref wy1, Value.ref wy2, Value.int qd, Value.ref wy3, Value.ref wy4, Value.int cr])), (wy3, Sum.inl (wc3, 40, Sum.inl s3)), (wy4, Sum.inl (wc4, 4, Sum.inl t4)), (fa, Sum.inr (3, [Value.ref cu, Value.ref rv, Value.ref bt, Value.int (nI bc), Value.int ho, Value.int fe])), (cu, Sum.inr (1, [Value.ref cu1, Value.ref cu2, Value.ref cu3, Value.ref cu4, Value.int sc, Value.int to]))] H → va_D A [(h0, Sum.inr (7, [Value.ref wy1, Value.ref wy2, Value.int qd, Value.ref wy3, Value.ref wy4, Value.int cr])), (wy3, Sum.inl (wc3, 40, Sum.inl s3)), (wy4, Sum.inl (wc4, 4, Sum.inl t4)), (fa, Sum.inr (3, [Value.ref cu, Value.ref rv, Value.ref bt, Value.int (nI bc), Value.int ho, Value.int fe])), (cu, Sum.inr (1, [Value.ref cu1, Value.ref cu2, Value.ref cu3, Value.ref cu4, Value.int sc, Value.int to]))] → va_S A s.heap H locs → ∀ ls : Array Slot, lv_has ls 6 [(0, Value.ref h0), (1, Value.ref fa), (2, Value.int (nI g)), (3, Value.int (nI t)), (4, Value.int fs)] → W p l e ({ frames := 2, cells := 0, slots := 0, locals := 81 }) s m args below meth c H locs 0 0 Q (F0 m 74 ls [])) :
    ∀ n : Nat, ∀ (fs : Int32) (i : Nat), (i ≤ bc) → (bc ≤ 10) → (t < 4) → (g < 1024) → (t < sn) → (∀ b s, b < bc → g.testBit b = true → s < sn → s3 (b * 4 + s) = dv (dd b s) ∧ okD (dd b s)) → (fs = dv (fsN dd g t i)) → (bc - i) < n → ∀ (H : Heap) (locs : List Loc), va_P D vwCl [(h0, Sum.inr (7, [Value.ref wy1, Value.ref wy2, Value.int qd, Value.ref wy3, Value.ref wy4, Value.int cr])), (wy3, Sum.inl (wc3, 40, Sum.inl s3)), (wy4, Sum.inl (wc4, 4, Sum.inl t4)), (fa, Sum.inr (3, [Value.ref cu, Value.ref rv, Value.ref bt, Value.int (nI bc), Value.int ho, Value.int fe])), (cu, Sum.inr (1, [Value.ref cu1, Value.ref cu2, Value.ref cu3, Value.ref cu4, Value.int sc, Value.int to]))] H → va_D A [(h0, Sum.inr (7, [Value.ref wy1, Value.ref wy2, Value.int qd, Value.ref wy3, Value.ref wy4, Value.int cr])), (wy3, Sum.inl (wc3, 40, Sum.inl s3)), (wy4, Sum.inl (wc4, 4, Sum.inl t4)), (fa, Sum.inr (3, [Value.ref cu, Value.ref rv, Value.ref bt, Value.int (nI bc), Value.int ho, Value.int fe])), (cu, Sum.inr (1, [Value.ref cu1, Value.ref cu2, Value.ref cu3, Value.ref cu4, Value.int sc, Value.int to]))] → va_S A s.heap H locs → ∀ ls : Array Slot, lv_has ls 6 [(0, Value.ref h0), (1, Value.ref fa), (2, Value.int (nI g)), (3, Value.int (nI t)), (4, Value.int fs), (5, Value.int (nI i))] → W p l e ({ frames := 2, cells := 0, slots := 0, locals := 81 }) s m args below meth c H locs 0 0 Q (F0 m 24 ls []) := by
  intro n
  induction n with
  | zero => intro fs i hi hbc ht hg htn9 hT hfs hn; exact absurd hn (Nat.not_lt_zero _)
  | succ n ih =>
    intro fs i hi hbc ht hg htn9 hT hfs hn H locs hP hD hS ls hl
    obtain ⟨hx, hb, hml, hown, hts⟩ := id F
    refine lv_iload hx hb dX8_noteFirstSteps_24 (lv_at hl 5 rfl) ?_
    refine lv_aload_n hx hb dX8_noteFirstSteps_26 rfl (lv_at hl 1 rfl) ?_
    refine va_get (D := D) (ci := 3) (v := Value.int (nI bc)) (C := RX3) (T := TX3) (N := 6) hx hb hts inG_X3 hown hK hP 3 rfl rfl 3 (by decide) (hts _ kw_1_228) (fun _ h9 => h9) rfl dX8_noteFirstSteps_27 ?_
    refine lv_icmp_ge (tgt := 74) hx hb dX8_noteFirstSteps_30 (by decide) (fun c_1 => ?_) (fun c_1 => ?_)
    · skip
      have c_1n : bc ≤ i := (nI_leI (by omega) (by omega)).mp c_1
      have c_1 := Int32.not_lt.mpr c_1
      exact kx_74 fs ((show i = bc by omega) ▸ hfs) H locs (hP.sub [0, 1, 2, 3, 4] rfl) (hD.sub [0, 1, 2, 3, 4] (by decide) rfl) hS ls (lv_sub hl [0, 1, 2, 3, 4] rfl)
    · skip
      have c_1n : i < bc := nb_le (by omega) (by omega) c_1
      have c_1 := Int32.not_le.mp c_1
      refine lv_iload hx hb dX8_noteFirstSteps_33 (lv_at hl 5 rfl) ?_
      refine lv_bipush (v := 10) hx hb dX8_noteFirstSteps_35 (by decide) ?_
      refine lv_icmp_ge (tgt := 74) hx hb dX8_noteFirstSteps_37 (by decide) (fun c_2 => ?_) (fun c_2 => ?_)
      · skip
        have c_2n : 10 ≤ i := (nI_leI (by omega) (by omega)).mp c_2
        have c_2 := Int32.not_lt.mpr c_2
        exact kx_74 fs ((show i = bc by omega) ▸ hfs) H locs (hP.sub [0, 1, 2, 3, 4] rfl) (hD.sub [0, 1, 2, 3, 4] (by decide) rfl) hS ls (lv_sub hl [0, 1, 2, 3, 4] rfl)
      · skip
        have c_2n : i < 10 := nb_le (by omega) (by omega) c_2
        have c_2 := Int32.not_le.mp c_2
        refine lv_iload_n hx hb dX8_noteFirstSteps_40 rfl (lv_at hl 2 rfl) ?_
        refine lv_iload hx hb dX8_noteFirstSteps_41 (lv_at hl 5 rfl) ?_
        refine lv_ishr hx hb dX8_noteFirstSteps_43 ?_
        refine lv_topi (fun z_3 ez_3 => ?_)
        refine lv_iconst (v := 1) hx hb dX8_noteFirstSteps_44 (by decide) ?_
        refine lv_iand hx hb dX8_noteFirstSteps_45 ?_
        refine lv_topi (fun z_4 ez_4 => ?_)
        refine lv_iconst (v := 1) hx hb dX8_noteFirstSteps_46 (by decide) ?_
        refine lv_icmp_ne (tgt := 68) hx hb dX8_noteFirstSteps_47 (by decide) (fun c_5 => ?_) (fun c_5 => ?_)
        · skip
          have hbt : ¬ g.testBit i = true := fun q => c_5 (by rw [ez_4, ez_3]; exact (sh_bit i (by omega) g (by omega)).mpr q)
          refine lv_iinc (v := nI (i + 1)) (lv' := [(5, Value.int (nI (i + 1))), (0, Value.ref h0), (1, Value.ref fa), (2, Value.int (nI g)), (3, Value.int (nI t)), (4, Value.int fs)]) hx hb dX8_noteFirstSteps_68 hl (k := 5) rfl (nI_add i 1) (by decide) rfl (fun ls hl => ?_)
          refine lv_goto (tgt := 24) hx hb dX8_noteFirstSteps_71 (by decide) ?_
          exact ih fs (i + 1) (by omega) (by omega) (by omega) (by omega) (by omega) hT (hfs.trans (by rw [fsN_n hbt])) (by omega) H locs (hP.sub [0, 1, 2, 3, 4] rfl) (hD.sub [0, 1, 2, 3, 4] (by decide) rfl) hS ls (lv_sub hl [1, 2, 3, 4, 5, 0] rfl)
        · skip
          have hbt : g.testBit i = true := (sh_bit i (by omega) g (by omega)).mp (by rw [← ez_3, ← ez_4]; exact c_5)
          refine lv_iload hx hb dX8_noteFirstSteps_50 (lv_at hl 4 rfl) ?_
          refine lv_aload_n hx hb dX8_noteFirstSteps_52 rfl (lv_at hl 0 rfl) ?_
          refine va_get (D := D) (ci := 7) (v := Value.ref wy3) (C := RX8) (T := TX8) (N := 6) hx hb hts inG_X8 hown hK hP 0 rfl rfl 3 (by decide) (hts _ kw_2_51) (fun _ h9 => h9) rfl dX8_noteFirstSteps_53 ?_
          refine lv_iload hx hb dX8_noteFirstSteps_56 (lv_at hl 5 rfl) ?_
          refine lv_iconst (v := 4) hx hb dX8_noteFirstSteps_58 (by decide) ?_
          refine lv_imul hx hb dX8_noteFirstSteps_59 ?_
          refine lv_topi (fun z_6 ez_6 => ?_)
          obtain rfl : z_6 = nI (i * 4) := ez_6.trans (pk_mul i 4)
          refine lv_iload_n hx hb dX8_noteFirstSteps_60 rfl (lv_at hl 3 rfl) ?_
          refine lv_iadd hx hb dX8_noteFirstSteps_61 ?_
          refine lv_topi (fun z_7 ez_7 => ?_)
          obtain rfl : z_7 = nI (i * 4 + t) := ez_7.trans (nI_add (i * 4) t)
          refine m_iald hx hb hK hP 1 0 rfl rfl (i * 4 + t) rfl (by omega) (by decide) dX8_noteFirstSteps_62 ?_
          refine lv_topi (fun v_8 ev_8 => ?_)
          refine mc_Si (rest := []) (wr := [(h0, Sum.inr (7, [Value.ref wy1, Value.ref wy2, Value.int qd, Value.ref wy3, Value.ref wy4, Value.int cr])), (wy3, Sum.inl (wc3, 40, Sum.inl s3)), (wy4, Sum.inl (wc4, 4, Sum.inl t4)), (fa, Sum.inr (3, [Value.ref cu, Value.ref rv, Value.ref bt, Value.int (nI bc), Value.int ho, Value.int fe])), (cu, Sum.inr (1, [Value.ref cu1, Value.ref cu2, Value.ref cu3, Value.ref cu4, Value.int sc, Value.int to]))]) F hK hP hD hS hA (s_nearer l D fs v_8 ) ⟨gk_X8_59.1, gk_X8_59.2, Nat.le_of_ble_eq_true rfl, Nat.le_of_ble_eq_true rfl⟩ [] [0, 1, 2, 3, 4] [] ⟨rfl, rfl, rfl, rfl, by decide⟩ rfl xT_move (fun _ _ _ => trivial) rfl hl.1 rfl (Nat.le_of_ble_eq_true rfl) dX8_noteFirstSteps_63 ⟨Nat.le_of_ble_eq_true rfl, Nat.le_of_ble_eq_true rfl⟩ (fun r_9 _ H locs hw hK1 hP hD hS => ?_)
          have hP : va_P D vwCl [(h0, Sum.inr (7, [Value.ref wy1, Value.ref wy2, Value.int qd, Value.ref wy3, Value.ref wy4, Value.int cr])), (wy3, Sum.inl (wc3, 40, Sum.inl s3)), (wy4, Sum.inl (wc4, 4, Sum.inl t4)), (fa, Sum.inr (3, [Value.ref cu, Value.ref rv, Value.ref bt, Value.int (nI bc), Value.int ho, Value.int fe])), (cu, Sum.inr (1, [Value.ref cu1, Value.ref cu2, Value.ref cu3, Value.ref cu4, Value.int sc, Value.int to]))] H := hP
          have hD : va_D A [(h0, Sum.inr (7, [Value.ref wy1, Value.ref wy2, Value.int qd, Value.ref wy3, Value.ref wy4, Value.int cr])), (wy3, Sum.inl (wc3, 40, Sum.inl s3)), (wy4, Sum.inl (wc4, 4, Sum.inl t4)), (fa, Sum.inr (3, [Value.ref cu, Value.ref rv, Value.ref bt, Value.int (nI bc), Value.int ho, Value.int fe])), (cu, Sum.inr (1, [Value.ref cu1, Value.ref cu2, Value.ref cu3, Value.ref cu4, Value.int sc, Value.int to]))] := hD
          have hw_10 : r_9 = nrI fs v_8 := hw
          refine lv_istore (lv' := [(4, Value.int r_9), (0, Value.ref h0), (1, Value.ref fa), (2, Value.int (nI g)), (3, Value.int (nI t)), (5, Value.int (nI i))]) hx hb dX8_noteFirstSteps_66 hl (by decide) rfl (fun ls hl => ?_)
          refine lv_iinc (v := nI (i + 1)) (lv' := [(5, Value.int (nI (i + 1))), (4, Value.int r_9), (0, Value.ref h0), (1, Value.ref fa), (2, Value.int (nI g)), (3, Value.int (nI t))]) hx hb dX8_noteFirstSteps_68 hl (k := 5) rfl (nI_add i 1) (by decide) rfl (fun ls hl => ?_)
          refine lv_goto (tgt := 24) hx hb dX8_noteFirstSteps_71 (by decide) ?_
          exact ih r_9 (i + 1) (by omega) (by omega) (by omega) (by omega) (by omega) hT (by rw [hw_10, hfs, ev_8, (hT i t (by omega) hbt (by omega)).1, fsN_y hbt]; exact (nr_dv (fsN_ok i (fun b q1 q2 => (hT b t (by omega) q2 (by omega)).2)) (hT i t (by omega) hbt (by omega)).2).1) (by omega) H locs (hP.sub [0, 1, 2, 3, 4] rfl) (hD.sub [0, 1, 2, 3, 4] (by decide) rfl) hS ls (lv_sub hl [2, 3, 4, 5, 1, 0] rfl)
set_option maxHeartbeats 4000000 in
set_option maxRecDepth 100000 in
theorem lp_s_note_out {p : Program} {l : Launch} {e : Env} {s : State} {m : MethodId} {args : Array Value} {below : List Frame} {meth : Method} {c : Code} {Q : State → Prop} {A : Nat → Prop} {D : va_G} (F : mFix p s m args c cX8_noteFirstSteps 6 RX8) (hA : ∀ q, s.heap.size ≤ q → A q) (h0 : Nat) (fa : Nat) (cu : Nat) (rv : Nat) (bt : Nat) (wy1 : Nat) (wy2 : Nat) (wy3 : Nat) (wy4 : Nat) (cu1 : Nat) (cu2 : Nat) (cu3 : Nat) (cu4 : Nat) (wc3 : ClassId) (s3 : Nat → Int32) (qd : Int32) (cr : Int32) (sc : Int32) (to : Int32) (bc : Nat) (ho : Int32) (fe : Int32) (wc4 : ClassId) (g : Nat) (sn : Nat) (dd : Nat → Nat → Nat) (hK : va_K D vwCl [(wc3, .int), (wc4, .int)] s)
    (kx_88 : ∀ (t4 : Nat → Int32), (∀ s, s < sn → t4 s = dv (fsN dd g s bc)) → ∀ (H : Heap) (locs : List Loc), va_P D vwCl [(h0, Sum.inr (7, [Value.ref wy1, Value.ref wy2, Value.int qd, Value.ref wy3, Value.ref wy4, Value.int cr])), (wy3, Sum.inl (wc3, 40, Sum.inl s3)), (wy4, Sum.inl (wc4, 4, Sum.inl t4)), (fa, Sum.inr (3, [Value.ref cu, Value.ref rv, Value.ref bt, Value.int (nI bc), Value.int ho, Value.int fe])), (cu, Sum.inr (1, [Value.ref cu1, Value.ref cu2, Value.ref cu3, Value.ref cu4, Value.int sc, Value.int to]))] H → va_D A [(h0, Sum.inr (7, [Value.ref wy1, Value.ref wy2, Value.int qd, Value.ref wy3, Value.ref wy4, Value.int cr])), (wy3, Sum.inl (wc3, 40, Sum.inl s3)), (wy4, Sum.inl (wc4, 4, Sum.inl t4)), (fa, Sum.inr (3, [Value.ref cu, Value.ref rv, Value.ref bt, Value.int (nI bc), Value.int ho, Value.int fe])), (cu, Sum.inr (1, [Value.ref cu1, Value.ref cu2, Value.ref cu3, Value.ref cu4, Value.int sc, Value.int to]))] → va_S A s.heap H locs → ∀ ls : Array Slot, lv_has ls 6 [] → W p l e ({ frames := 2, cells := 0, slots := 0, locals := 81 }) s m args below meth c H locs 0 0 Q (F0 m 88 ls [])) :
    ∀ n : Nat, ∀ (t4 : Nat → Int32) (t : Nat), (t ≤ 4) → (bc ≤ 10) → (g < 1024) → (sc = nI sn ∧ sn ≤ 4) → (t ≤ sn) → (∀ b s, b < bc → g.testBit b = true → s < sn → s3 (b * 4 + s) = dv (dd b s) ∧ okD (dd b s)) → (∀ s, s < t → t4 s = dv (fsN dd g s bc)) → (4 - t) < n → ∀ (H : Heap) (locs : List Loc), va_P D vwCl [(h0, Sum.inr (7, [Value.ref wy1, Value.ref wy2, Value.int qd, Value.ref wy3, Value.ref wy4, Value.int cr])), (wy3, Sum.inl (wc3, 40, Sum.inl s3)), (wy4, Sum.inl (wc4, 4, Sum.inl t4)), (fa, Sum.inr (3, [Value.ref cu, Value.ref rv, Value.ref bt, Value.int (nI bc), Value.int ho, Value.int fe])), (cu, Sum.inr (1, [Value.ref cu1, Value.ref cu2, Value.ref cu3, Value.ref cu4, Value.int sc, Value.int to]))] H → va_D A [(h0, Sum.inr (7, [Value.ref wy1, Value.ref wy2, Value.int qd, Value.ref wy3, Value.ref wy4, Value.int cr])), (wy3, Sum.inl (wc3, 40, Sum.inl s3)), (wy4, Sum.inl (wc4, 4, Sum.inl t4)), (fa, Sum.inr (3, [Value.ref cu, Value.ref rv, Value.ref bt, Value.int (nI bc), Value.int ho, Value.int fe])), (cu, Sum.inr (1, [Value.ref cu1, Value.ref cu2, Value.ref cu3, Value.ref cu4, Value.int sc, Value.int to]))] → va_S A s.heap H locs → ∀ ls : Array Slot, lv_has ls 6 [(0, Value.ref h0), (1, Value.ref fa), (2, Value.int (nI g)), (3, Value.int (nI t))] → W p l e ({ frames := 2, cells := 0, slots := 0, locals := 81 }) s m args below meth c H locs 0 0 Q (F0 m 2 ls []) := by
  intro n
  induction n with
  | zero => intro t4 t ht hbc hg hsc htn hT h4f hn; exact absurd hn (Nat.not_lt_zero _)
  | succ n ih =>
    intro t4 t ht hbc hg hsc htn hT h4f hn H locs hP hD hS ls hl
    obtain ⟨hx, hb, hml, hown, hts⟩ := id F
    refine lv_iload_n hx hb dX8_noteFirstSteps_2 rfl (lv_at hl 3 rfl) ?_
    refine lv_aload_n hx hb dX8_noteFirstSteps_3 rfl (lv_at hl 1 rfl) ?_
    refine va_get (D := D) (ci := 3) (v := Value.ref cu) (C := RX3) (T := TX3) (N := 6) hx hb hts inG_X3 hown hK hP 3 rfl rfl 0 (by decide) (hts _ kw_1_216) (fun _ h9 => h9) rfl dX8_noteFirstSteps_4 ?_
    refine va_get (D := D) (ci := 1) (v := Value.int sc) (C := RX1) (T := TX1) (N := 6) hx hb hts inG_X1 hown hK hP 4 rfl rfl 4 (by decide) (hts _ kw_1_107) (fun _ h9 => h9) rfl dX8_noteFirstSteps_7 ?_
    refine lv_icmp_ge (tgt := 88) hx hb dX8_noteFirstSteps_10 (by decide) (fun c_1 => ?_) (fun c_1 => ?_)
    · skip
      have c_1 := Int32.not_lt.mpr c_1
      have htn9 : sn ≤ t := nb_lt (by omega) (by omega) (by rw [← hsc.1]; exact c_1)
      exact kx_88 t4 ((show t = sn by omega) ▸ h4f) H locs (hP.sub [0, 1, 2, 3, 4] rfl) (hD.sub [0, 1, 2, 3, 4] (by decide) rfl) hS ls (lv_sub hl [] rfl)
    · skip
      have c_1 := Int32.not_le.mp c_1
      have htn9 : t < sn := (nI_ltI (by omega) (by omega)).mp (by rw [← hsc.1]; exact c_1)
      refine lv_iload_n hx hb dX8_noteFirstSteps_13 rfl (lv_at hl 3 rfl) ?_
      refine lv_iconst (v := 4) hx hb dX8_noteFirstSteps_14 (by decide) ?_
      refine lv_icmp_ge (tgt := 88) hx hb dX8_noteFirstSteps_15 (by decide) (fun c_2 => ?_) (fun c_2 => ?_)
      · skip
        have c_2n : 4 ≤ t := (nI_leI (by omega) (by omega)).mp c_2
        have c_2 := Int32.not_lt.mpr c_2
        exact kx_88 t4 ((show t = sn by omega) ▸ h4f) H locs (hP.sub [0, 1, 2, 3, 4] rfl) (hD.sub [0, 1, 2, 3, 4] (by decide) rfl) hS ls (lv_sub hl [] rfl)
      · skip
        have c_2n : t < 4 := nb_le (by omega) (by omega) c_2
        have c_2 := Int32.not_le.mp c_2
        refine lv_iconst (v := -1) hx hb dX8_noteFirstSteps_18 (by decide) ?_
        refine lv_istore (lv' := [(4, Value.int ((-1))), (0, Value.ref h0), (1, Value.ref fa), (2, Value.int (nI g)), (3, Value.int (nI t))]) hx hb dX8_noteFirstSteps_19 hl (by decide) rfl (fun ls hl => ?_)
        refine lv_iconst (v := 0) hx hb dX8_noteFirstSteps_21 (by decide) ?_
        refine lv_istore (lv' := [(5, Value.int 0), (4, Value.int ((-1))), (0, Value.ref h0), (1, Value.ref fa), (2, Value.int (nI g)), (3, Value.int (nI t))]) hx hb dX8_noteFirstSteps_22 hl (by decide) rfl (fun ls hl => ?_)
        refine lp_s_note_in F hA h0 fa cu rv bt wy1 wy2 wy3 wy4 cu1 cu2 cu3 cu4 wc3 s3 qd cr sc to bc ho fe wc4 t4 g t sn dd (hK.sub [0, 1] rfl) (fun fs_3 h_4 H locs hP hD hS ls hl => ?_) _ ((-1)) 0 (by omega) (by omega) (by omega) (by omega) htn9 hT dv_n.symm (Nat.lt_succ_self _) _ _ (hP.sub [0, 1, 2, 3, 4] rfl) (hD.sub [0, 1, 2, 3, 4] (by decide) rfl) hS ls (lv_sub hl [2, 3, 4, 5, 1, 0] rfl)
        have h_4 : fs_3 = dv (fsN dd g t bc) := h_4
        have hfs := h_4
        refine lv_aload_n hx hb dX8_noteFirstSteps_74 rfl (lv_at hl 0 rfl) ?_
        refine va_get (D := D) (ci := 7) (v := Value.ref wy4) (C := RX8) (T := TX8) (N := 6) hx hb hts inG_X8 hown hK hP 0 rfl rfl 4 (by decide) (hts _ kw_2_52) (fun _ h9 => h9) rfl dX8_noteFirstSteps_75 ?_
        refine lv_iload_n hx hb dX8_noteFirstSteps_78 rfl (lv_at hl 3 rfl) ?_
        refine lv_iload hx hb dX8_noteFirstSteps_79 (lv_at hl 4 rfl) ?_
        refine m_iast hx hb hK hP hD hS 2 1 rfl rfl t rfl (by omega) (by decide) dX8_noteFirstSteps_81 (fun g_5 H locs eg_5 hP hD hS => ?_)
        have hP : va_P D vwCl [(h0, Sum.inr (7, [Value.ref wy1, Value.ref wy2, Value.int qd, Value.ref wy3, Value.ref wy4, Value.int cr])), (wy3, Sum.inl (wc3, 40, Sum.inl s3)), (wy4, Sum.inl (wc4, 4, Sum.inl g_5)), (fa, Sum.inr (3, [Value.ref cu, Value.ref rv, Value.ref bt, Value.int (nI bc), Value.int ho, Value.int fe])), (cu, Sum.inr (1, [Value.ref cu1, Value.ref cu2, Value.ref cu3, Value.ref cu4, Value.int sc, Value.int to]))] H := hP
        have hD : va_D A [(h0, Sum.inr (7, [Value.ref wy1, Value.ref wy2, Value.int qd, Value.ref wy3, Value.ref wy4, Value.int cr])), (wy3, Sum.inl (wc3, 40, Sum.inl s3)), (wy4, Sum.inl (wc4, 4, Sum.inl g_5)), (fa, Sum.inr (3, [Value.ref cu, Value.ref rv, Value.ref bt, Value.int (nI bc), Value.int ho, Value.int fe])), (cu, Sum.inr (1, [Value.ref cu1, Value.ref cu2, Value.ref cu3, Value.ref cu4, Value.int sc, Value.int to]))] := hD
        refine lv_iinc (v := nI (t + 1)) (lv' := [(3, Value.int (nI (t + 1))), (0, Value.ref h0), (1, Value.ref fa), (2, Value.int (nI g)), (4, Value.int fs_3)]) hx hb dX8_noteFirstSteps_82 hl (k := 3) rfl (nI_add t 1) (by decide) rfl (fun ls hl => ?_)
        refine lv_goto (tgt := 2) hx hb dX8_noteFirstSteps_85 (by decide) ?_
        exact ih g_5 (t + 1) (by omega) (by omega) (by omega) hsc (by omega) hT (fun s hs => by rw [eg_5]; by_cases r9 : s = t; rw [r9, pk_us]; exact hfs; rw [pk_un r9]; exact h4f s (by omega)) (by omega) H locs (hP.sub [0, 1, 2, 3, 4] rfl) (hD.sub [0, 1, 2, 3, 4] (by decide) rfl) hS ls (lv_sub hl [1, 2, 3, 0] rfl)
set_option maxHeartbeats 4000000 in
set_option maxRecDepth 100000 in
theorem s_noteFirst (l : Launch) (D : va_G) (h0 : Nat) (fa : Nat) (cu : Nat) (rv : Nat) (bt : Nat) (wy1 : Nat) (wy2 : Nat) (wy3 : Nat) (wy4 : Nat) (cu1 : Nat) (cu2 : Nat) (cu3 : Nat) (cu4 : Nat) (wc3 : ClassId) (s3 : Nat → Int32) (qd : Int32) (cr : Int32) (sc : Int32) (to : Int32) (bc : Nat) (ho : Int32) (fe : Int32) (wc4 : ClassId) (s4 : Nat → Int32) (g : Nat) (sn : Nat) (dd : Nat → Nat → Nat) (hbc : bc ≤ 10) (hg : g < 1024) (hsc : sc = nI sn ∧ sn ≤ 4) (hT : ∀ b s, b < bc → g.testBit b = true → s < sn → s3 (b * 4 + s) = dv (dd b s) ∧ okD (dd b s)) : cV l yX8_noteFirstSteps (.code yX8_noteFirstSteps cX8_noteFirstSteps 6 none) ({ frames := 2, cells := 0, slots := 0, locals := 81 }) D [(wc3, .int), (wc4, .int)] [(h0, Sum.inr (7, [Value.ref wy1, Value.ref wy2, Value.int qd, Value.ref wy3, Value.ref wy4, Value.int cr])), (wy3, Sum.inl (wc3, 40, Sum.inl s3)), (wy4, Sum.inl (wc4, 4, Sum.inl s4)), (fa, Sum.inr (3, [Value.ref cu, Value.ref rv, Value.ref bt, Value.int (nI bc), Value.int ho, Value.int fe])), (cu, Sum.inr (1, [Value.ref cu1, Value.ref cu2, Value.ref cu3, Value.ref cu4, Value.int sc, Value.int to]))] xT [Value.ref h0, Value.ref fa, Value.int (nI g)] (S := Nat → Int32) (fun u => match u with | t4 => ∀ s, s < sn → t4 s = dv (fsN dd g s bc)) (fun u => match u with | t4 => []) (fun u => match u with | t4 => [(h0, Sum.inr (7, [Value.ref wy1, Value.ref wy2, Value.int qd, Value.ref wy3, Value.ref wy4, Value.int cr])), (wy3, Sum.inl (wc3, 40, Sum.inl s3)), (wy4, Sum.inl (wc4, 4, Sum.inl t4)), (fa, Sum.inr (3, [Value.ref cu, Value.ref rv, Value.ref bt, Value.int (nI bc), Value.int ho, Value.int fe])), (cu, Sum.inr (1, [Value.ref cu1, Value.ref cu2, Value.ref cu3, Value.ref cu4, Value.int sc, Value.int to]))]) := by
  intro sz
  refine Met.ofW (cc := cX8_noteFirstSteps) (maxL := 6) (ret := none) (by decide) rfl ?_
  intro p e s m args below meth c s₁ B hml hv
  obtain ⟨rfl, hsz, hP, hK, hD0, hX⟩ := hv
  have hx := B.exec
  have hb := B.bytes
  have hr := B.returns
  have hts0 := atoms_spec (ws := .code yX8_noteFirstSteps cX8_noteFirstSteps 6 none :: gw) B.pre
  have hts := fun (w : Cond) (h : w ∈ gw) => hts0 w (List.mem_cons_of_mem _ h)
  have hown : s.vm.findClass RX8 = some m.cls := findClass_of_methodNamed B.named
  have hlocks := B.notSynchronized
  have F : mFix p s m _ c cX8_noteFirstSteps 6 RX8 := ⟨hx, hb, hml, hown, hts⟩
  subst hsz
  have hD := hD0.self (sz := s.heap.size)
  generalize hAe : va_A [(h0, Sum.inr (7, [Value.ref wy1, Value.ref wy2, Value.int qd, Value.ref wy3, Value.ref wy4, Value.int cr])), (wy3, Sum.inl (wc3, 40, Sum.inl s3)), (wy4, Sum.inl (wc4, 4, Sum.inl s4)), (fa, Sum.inr (3, [Value.ref cu, Value.ref rv, Value.ref bt, Value.int (nI bc), Value.int ho, Value.int fe])), (cu, Sum.inr (1, [Value.ref cu1, Value.ref cu2, Value.ref cu3, Value.ref cu4, Value.int sc, Value.int to]))] s.heap.size = A at hD hX ⊢
  have hA : ∀ q : Nat, s.heap.size ≤ q → A q := fun q h => by rw [← hAe]; exact Or.inr h
  have hS : va_S A s.heap s.heap [] := va_S.rf
  have hl := lv_entry ([Value.ref h0, Value.ref fa, Value.int (nI g)]) (n := 6) (Nat.le_of_ble_eq_true rfl)
  rw [lg_entry_eq]
  generalize (lg_sl ([Value.ref h0, Value.ref fa, Value.int (nI g)]) ++ List.replicate (6 - (lg_sl ([Value.ref h0, Value.ref fa, Value.int (nI g)])).length) Slot.unset).toArray = ls at hl ⊢
  have hl : lv_has ls 6 [(0, Value.ref h0), (1, Value.ref fa), (2, Value.int (nI g))] := hl
  have hP : va_P D vwCl [(h0, Sum.inr (7, [Value.ref wy1, Value.ref wy2, Value.int qd, Value.ref wy3, Value.ref wy4, Value.int cr])), (wy3, Sum.inl (wc3, 40, Sum.inl s3)), (wy4, Sum.inl (wc4, 4, Sum.inl s4)), (fa, Sum.inr (3, [Value.ref cu, Value.ref rv, Value.ref bt, Value.int (nI bc), Value.int ho, Value.int fe])), (cu, Sum.inr (1, [Value.ref cu1, Value.ref cu2, Value.ref cu3, Value.ref cu4, Value.int sc, Value.int to]))] s.heap := hP
  refine lv_iconst (v := 0) hx hb dX8_noteFirstSteps_0 (by decide) ?_
  refine lv_istore_n (lv' := [(3, Value.int 0), (0, Value.ref h0), (1, Value.ref fa), (2, Value.int (nI g))]) hx hb dX8_noteFirstSteps_1 rfl hl (by decide) rfl (fun ls hl => ?_)
  refine lp_s_note_out F hA h0 fa cu rv bt wy1 wy2 wy3 wy4 cu1 cu2 cu3 cu4 wc3 s3 qd cr sc to bc ho fe wc4 g sn dd (hK.sub [0, 1] rfl) (fun t4_1 h_2 H locs hP hD hS ls hl => ?_) _ s4 0 (by omega) (by omega) (by omega) hsc (Nat.zero_le _) hT (fun s q => absurd q (Nat.not_lt_zero s)) (Nat.lt_succ_self _) _ _ (hP.sub [0, 1, 2, 3, 4] rfl) (hD.sub [0, 1, 2, 3, 4] (by decide) rfl) hS ls (lv_sub hl [1, 2, 3, 0] rfl)
  have h_2 : ∀ s, s < sn → t4_1 s = dv (fsN dd g s bc) := h_2
  have hP9 := hP.sub (ws' := [(h0, Sum.inr (7, [Value.ref wy1, Value.ref wy2, Value.int qd, Value.ref wy3, Value.ref wy4, Value.int cr])), (wy3, Sum.inl (wc3, 40, Sum.inl s3)), (wy4, Sum.inl (wc4, 4, Sum.inl t4_1)), (fa, Sum.inr (3, [Value.ref cu, Value.ref rv, Value.ref bt, Value.int (nI bc), Value.int ho, Value.int fe])), (cu, Sum.inr (1, [Value.ref cu1, Value.ref cu2, Value.ref cu3, Value.ref cu4, Value.int sc, Value.int to]))]) [0, 1, 2, 3, 4] rfl
  have hD9 := hD.sub (ws' := [(h0, Sum.inr (7, [Value.ref wy1, Value.ref wy2, Value.int qd, Value.ref wy3, Value.ref wy4, Value.int cr])), (wy3, Sum.inl (wc3, 40, Sum.inl s3)), (wy4, Sum.inl (wc4, 4, Sum.inl t4_1)), (fa, Sum.inr (3, [Value.ref cu, Value.ref rv, Value.ref bt, Value.int (nI bc), Value.int ho, Value.int fe])), (cu, Sum.inr (1, [Value.ref cu1, Value.ref cu2, Value.ref cu3, Value.ref cu4, Value.int sc, Value.int to]))]) [0, 1, 2, 3, 4] (by decide) rfl
  have hK9 := hK.sub (tys' := []) [] rfl
  refine W.widen (k := 0) (n := 0) (by decide) (by decide) ?_
  exact W.vret hx hb hr (fun t ht hW => ⟨⟨t4_1, rfl, h_2, by rw [ht]; exact hP9, va_K.moved hW.alike hK9, hD9⟩, hS.F ht⟩) hS.2.2 dX8_noteFirstSteps_88
set_option maxHeartbeats 4000000 in
set_option maxRecDepth 100000 in
theorem lp_s_menOf {p : Program} {l : Launch} {e : Env} {s : State} {m : MethodId} {args : Array Value} {below : List Frame} {meth : Method} {c : Code} {Q : State → Prop} {A : Nat → Prop} {D : va_G} (F : mFix p s m args c cX8_menOf 4 RX8) (hA : ∀ q, s.heap.size ≤ q → A q) (bo : Nat → Nat) (B1 : Nat → Int32) (B2 : Nat → Int32) (B3 : Nat → Int32) (B4 : Nat → Int32) (B5 : Nat → Int32) (B6 : Nat → Int32) (B7 : Nat → Int32) (fa : Nat) (cu : Nat) (rv : Nat) (bt : Nat) (bc9 : ClassId) (bc : Nat) (ho : Int32) (fe : Int32) (g : Nat) (cw : Nat → Nat) (hK : va_K D vwCl [(bc9, .object RX0)] s)
    (kx_45 : ∀ (n9 : Nat), (n9 = menN cw g bc) → ∀ (H : Heap) (locs : List Loc), va_P D vwCl (bL bo B1 B2 B3 B4 B5 B6 B7 ++ ([(fa, Sum.inr (3, [Value.ref cu, Value.ref rv, Value.ref bt, Value.int (nI bc), Value.int ho, Value.int fe])), (bt, Sum.inl (bc9, 10, Sum.inr (Sum.inr (Sum.inr (Sum.inr (fun j => some (bo j)))))))] : va_W)) H → va_D A (bL bo B1 B2 B3 B4 B5 B6 B7 ++ ([(fa, Sum.inr (3, [Value.ref cu, Value.ref rv, Value.ref bt, Value.int (nI bc), Value.int ho, Value.int fe])), (bt, Sum.inl (bc9, 10, Sum.inr (Sum.inr (Sum.inr (Sum.inr (fun j => some (bo j)))))))] : va_W)) → va_S A s.heap H locs → ∀ ls : Array Slot, lv_has ls 4 [(2, Value.int (nI n9))] → W p l e ({ frames := 0, cells := 0, slots := 0, locals := 0 }) s m args below meth c H locs 0 0 Q (F0 m 45 ls [])) :
    ∀ n : Nat, ∀ (n9 : Nat) (i : Nat), (i ≤ bc) → (bc ≤ 10) → (g < 1024) → (∀ b, b < bc → B4 b = nI (cw b) ∧ cw b ≤ 99) → (n9 = menN cw g i) → (bc - i) < n → ∀ (H : Heap) (locs : List Loc), va_P D vwCl (bL bo B1 B2 B3 B4 B5 B6 B7 ++ ([(fa, Sum.inr (3, [Value.ref cu, Value.ref rv, Value.ref bt, Value.int (nI bc), Value.int ho, Value.int fe])), (bt, Sum.inl (bc9, 10, Sum.inr (Sum.inr (Sum.inr (Sum.inr (fun j => some (bo j)))))))] : va_W)) H → va_D A (bL bo B1 B2 B3 B4 B5 B6 B7 ++ ([(fa, Sum.inr (3, [Value.ref cu, Value.ref rv, Value.ref bt, Value.int (nI bc), Value.int ho, Value.int fe])), (bt, Sum.inl (bc9, 10, Sum.inr (Sum.inr (Sum.inr (Sum.inr (fun j => some (bo j)))))))] : va_W)) → va_S A s.heap H locs → ∀ ls : Array Slot, lv_has ls 4 [(0, Value.ref fa), (1, Value.int (nI g)), (2, Value.int (nI n9)), (3, Value.int (nI i))] → W p l e ({ frames := 0, cells := 0, slots := 0, locals := 0 }) s m args below meth c H locs 0 0 Q (F0 m 4 ls []) := by
  intro n
  induction n with
  | zero => intro n9 i hi hbc hg hCW hn9 hn; exact absurd hn (Nat.not_lt_zero _)
  | succ n ih =>
    intro n9 i hi hbc hg hCW hn9 hn H locs hP hD hS ls hl
    obtain ⟨hx, hb, hml, hown, hts⟩ := id F
    refine lv_iload_n hx hb dX8_menOf_4 rfl (lv_at hl 3 rfl) ?_
    refine lv_aload_n hx hb dX8_menOf_5 rfl (lv_at hl 0 rfl) ?_
    refine va_get (D := D) (ci := 3) (v := Value.int (nI bc)) (C := RX3) (T := TX3) (N := 6) hx hb hts inG_X3 hown hK hP 10 rfl rfl 3 (by decide) (hts _ kw_1_228) (fun _ h9 => h9) rfl dX8_menOf_6 ?_
    refine lv_icmp_ge (tgt := 45) hx hb dX8_menOf_9 (by decide) (fun c_1 => ?_) (fun c_1 => ?_)
    · skip
      have c_1n : bc ≤ i := (nI_leI (by omega) (by omega)).mp c_1
      have c_1 := Int32.not_lt.mpr c_1
      exact kx_45 n9 ((show i = bc by omega) ▸ hn9) H locs (hP.sub [0, 1, 2, 3, 4, 5, 6, 7, 8, 9, 10, 11] rfl) (hD.sub [0, 1, 2, 3, 4, 5, 6, 7, 8, 9, 10, 11] (by decide) rfl) hS ls (lv_sub hl [2] rfl)
    · skip
      have c_1n : i < bc := nb_le (by omega) (by omega) c_1
      have c_1 := Int32.not_le.mp c_1
      refine lv_iload_n hx hb dX8_menOf_12 rfl (lv_at hl 3 rfl) ?_
      refine lv_bipush (v := 10) hx hb dX8_menOf_13 (by decide) ?_
      refine lv_icmp_ge (tgt := 45) hx hb dX8_menOf_15 (by decide) (fun c_2 => ?_) (fun c_2 => ?_)
      · skip
        have c_2n : 10 ≤ i := (nI_leI (by omega) (by omega)).mp c_2
        have c_2 := Int32.not_lt.mpr c_2
        exact kx_45 n9 ((show i = bc by omega) ▸ hn9) H locs (hP.sub [0, 1, 2, 3, 4, 5, 6, 7, 8, 9, 10, 11] rfl) (hD.sub [0, 1, 2, 3, 4, 5, 6, 7, 8, 9, 10, 11] (by decide) rfl) hS ls (lv_sub hl [2] rfl)
      · skip
        have c_2n : i < 10 := nb_le (by omega) (by omega) c_2
        have c_2 := Int32.not_le.mp c_2
        refine lv_iload_n hx hb dX8_menOf_18 rfl (lv_at hl 1 rfl) ?_
        refine lv_iload_n hx hb dX8_menOf_19 rfl (lv_at hl 3 rfl) ?_
        refine lv_ishr hx hb dX8_menOf_20 ?_
        refine lv_topi (fun z_3 ez_3 => ?_)
        refine lv_iconst (v := 1) hx hb dX8_menOf_21 (by decide) ?_
        refine lv_iand hx hb dX8_menOf_22 ?_
        refine lv_topi (fun z_4 ez_4 => ?_)
        refine lv_iconst (v := 1) hx hb dX8_menOf_23 (by decide) ?_
        refine lv_icmp_ne (tgt := 39) hx hb dX8_menOf_24 (by decide) (fun c_5 => ?_) (fun c_5 => ?_)
        · skip
          have hbt : ¬ g.testBit i = true := fun q => c_5 (by rw [ez_4, ez_3]; exact (sh_bit i (by omega) g (by omega)).mpr q)
          refine lv_iinc (v := nI (i + 1)) (lv' := [(3, Value.int (nI (i + 1))), (0, Value.ref fa), (1, Value.int (nI g)), (2, Value.int (nI n9))]) hx hb dX8_menOf_39 hl (k := 3) rfl (nI_add i 1) (by decide) rfl (fun ls hl => ?_)
          refine lv_goto (tgt := 4) hx hb dX8_menOf_42 (by decide) ?_
          exact ih n9 (i + 1) (by omega) (by omega) (by omega) hCW (by rw [hn9, menN_n hbt]) (by omega) H locs (hP.sub [0, 1, 2, 3, 4, 5, 6, 7, 8, 9, 10, 11] rfl) (hD.sub [0, 1, 2, 3, 4, 5, 6, 7, 8, 9, 10, 11] (by decide) rfl) hS ls (lv_sub hl [1, 2, 3, 0] rfl)
        · skip
          have hbt : g.testBit i = true := (sh_bit i (by omega) g (by omega)).mp (by rw [← ez_3, ← ez_4]; exact c_5)
          refine lv_iload_n hx hb dX8_menOf_27 rfl (lv_at hl 2 rfl) ?_
          refine lv_aload_n hx hb dX8_menOf_28 rfl (lv_at hl 0 rfl) ?_
          refine va_get (D := D) (ci := 3) (v := Value.ref bt) (C := RX3) (T := TX3) (N := 6) hx hb hts inG_X3 hown hK hP 10 rfl rfl 2 (by decide) (hts _ kw_1_225) (fun _ h9 => h9) rfl dX8_menOf_29 ?_
          refine lv_iload_n hx hb dX8_menOf_32 rfl (lv_at hl 3 rfl) ?_
          refine m_aald hx hb hK hP 11 0 rfl rfl i rfl (by omega) (by decide) dX8_menOf_33 ?_
          refine W.eq (g2 := F0 m 34 ls [Value.ref (bo i), Value.int (nI n9)]) rfl ?_
          refine va_get (D := D) (ci := 0) (v := .int (B4 i)) (C := RX0) (T := TX0) (N := 7) hx hb hts inG_X0 hown hK hP i (bL_get (by omega)) rfl 3 (by decide) (hts _ kw_1_189) (fun _ h9 => h9) rfl dX8_menOf_34 ?_
          rw [(hCW i (by omega)).1]
          refine lv_iadd hx hb dX8_menOf_37 ?_
          refine lv_topi (fun z_6 ez_6 => ?_)
          obtain rfl : z_6 = nI (n9 + cw i) := ez_6.trans (nI_add n9 (cw i))
          refine lv_istore_n (lv' := [(2, Value.int (nI (n9 + cw i))), (0, Value.ref fa), (1, Value.int (nI g)), (3, Value.int (nI i))]) hx hb dX8_menOf_38 rfl hl (by decide) rfl (fun ls hl => ?_)
          refine lv_iinc (v := nI (i + 1)) (lv' := [(3, Value.int (nI (i + 1))), (2, Value.int (nI (n9 + cw i))), (0, Value.ref fa), (1, Value.int (nI g))]) hx hb dX8_menOf_39 hl (k := 3) rfl (nI_add i 1) (by decide) rfl (fun ls hl => ?_)
          refine lv_goto (tgt := 4) hx hb dX8_menOf_42 (by decide) ?_
          exact ih (n9 + cw i) (i + 1) (by omega) (by omega) (by omega) hCW (by rw [hn9, menN_y hbt]) (by omega) H locs (hP.sub [0, 1, 2, 3, 4, 5, 6, 7, 8, 9, 10, 11] rfl) (hD.sub [0, 1, 2, 3, 4, 5, 6, 7, 8, 9, 10, 11] (by decide) rfl) hS ls (lv_sub hl [2, 3, 1, 0] rfl)
set_option maxHeartbeats 4000000 in
set_option maxRecDepth 100000 in
theorem s_menOf (l : Launch) (D : va_G) (bo : Nat → Nat) (B1 : Nat → Int32) (B2 : Nat → Int32) (B3 : Nat → Int32) (B4 : Nat → Int32) (B5 : Nat → Int32) (B6 : Nat → Int32) (B7 : Nat → Int32) (fa : Nat) (cu : Nat) (rv : Nat) (bt : Nat) (bc9 : ClassId) (bc : Nat) (ho : Int32) (fe : Int32) (g : Nat) (cw : Nat → Nat) (hbc : bc ≤ 10) (hg : g < 1024) (hCW : ∀ b, b < bc → B4 b = nI (cw b) ∧ cw b ≤ 99) : cI l yX8_menOf (.code yX8_menOf cX8_menOf 4 (some .int)) ({ frames := 0, cells := 0, slots := 0, locals := 0 }) D [(bc9, .object RX0)] (bL bo B1 B2 B3 B4 B5 B6 B7 ++ ([(fa, Sum.inr (3, [Value.ref cu, Value.ref rv, Value.ref bt, Value.int (nI bc), Value.int ho, Value.int fe])), (bt, Sum.inl (bc9, 10, Sum.inr (Sum.inr (Sum.inr (Sum.inr (fun j => some (bo j)))))))] : va_W)) xT [Value.ref fa, Value.int (nI g)] (S := Unit) (fun r _ => r = nI (menN cw g bc)) (fun _ => []) (fun _ => (bL bo B1 B2 B3 B4 B5 B6 B7 ++ ([(fa, Sum.inr (3, [Value.ref cu, Value.ref rv, Value.ref bt, Value.int (nI bc), Value.int ho, Value.int fe])), (bt, Sum.inl (bc9, 10, Sum.inr (Sum.inr (Sum.inr (Sum.inr (fun j => some (bo j)))))))] : va_W))) := by
  intro sz
  refine Met.ofW (cc := cX8_menOf) (maxL := 4) (ret := (some .int)) (by decide) rfl ?_
  intro p e s m args below meth c s₁ B hml hv
  obtain ⟨rfl, hsz, hP, hK, hD0, hX⟩ := hv
  have hx := B.exec
  have hb := B.bytes
  have hr := B.returns
  have hts0 := atoms_spec (ws := .code yX8_menOf cX8_menOf 4 (some .int) :: gw) B.pre
  have hts := fun (w : Cond) (h : w ∈ gw) => hts0 w (List.mem_cons_of_mem _ h)
  have hown : s.vm.findClass RX8 = some m.cls := findClass_of_methodNamed B.named
  have hlocks := B.notSynchronized
  have F : mFix p s m _ c cX8_menOf 4 RX8 := ⟨hx, hb, hml, hown, hts⟩
  subst hsz
  have hD := hD0.self (sz := s.heap.size)
  generalize hAe : va_A (bL bo B1 B2 B3 B4 B5 B6 B7 ++ ([(fa, Sum.inr (3, [Value.ref cu, Value.ref rv, Value.ref bt, Value.int (nI bc), Value.int ho, Value.int fe])), (bt, Sum.inl (bc9, 10, Sum.inr (Sum.inr (Sum.inr (Sum.inr (fun j => some (bo j)))))))] : va_W)) s.heap.size = A at hD hX ⊢
  have hA : ∀ q : Nat, s.heap.size ≤ q → A q := fun q h => by rw [← hAe]; exact Or.inr h
  have hS : va_S A s.heap s.heap [] := va_S.rf
  have hl := lv_entry ([Value.ref fa, Value.int (nI g)]) (n := 4) (Nat.le_of_ble_eq_true rfl)
  rw [lg_entry_eq]
  generalize (lg_sl ([Value.ref fa, Value.int (nI g)]) ++ List.replicate (4 - (lg_sl ([Value.ref fa, Value.int (nI g)])).length) Slot.unset).toArray = ls at hl ⊢
  have hl : lv_has ls 4 [(0, Value.ref fa), (1, Value.int (nI g))] := hl
  have hP : va_P D vwCl (bL bo B1 B2 B3 B4 B5 B6 B7 ++ ([(fa, Sum.inr (3, [Value.ref cu, Value.ref rv, Value.ref bt, Value.int (nI bc), Value.int ho, Value.int fe])), (bt, Sum.inl (bc9, 10, Sum.inr (Sum.inr (Sum.inr (Sum.inr (fun j => some (bo j)))))))] : va_W)) s.heap := hP
  refine lv_iconst (v := 0) hx hb dX8_menOf_0 (by decide) ?_
  refine lv_istore_n (lv' := [(2, Value.int 0), (0, Value.ref fa), (1, Value.int (nI g))]) hx hb dX8_menOf_1 rfl hl (by decide) rfl (fun ls hl => ?_)
  refine lv_iconst (v := 0) hx hb dX8_menOf_2 (by decide) ?_
  refine lv_istore_n (lv' := [(3, Value.int 0), (2, Value.int 0), (0, Value.ref fa), (1, Value.int (nI g))]) hx hb dX8_menOf_3 rfl hl (by decide) rfl (fun ls hl => ?_)
  refine lp_s_menOf F hA bo B1 B2 B3 B4 B5 B6 B7 fa cu rv bt bc9 bc ho fe g cw (hK.sub [0] rfl) (fun n9_1 h_2 H locs hP hD hS ls hl => ?_) _ 0 0 (by omega) (by omega) (by omega) hCW rfl (Nat.lt_succ_self _) _ _ (hP.sub [0, 1, 2, 3, 4, 5, 6, 7, 8, 9, 10, 11] rfl) (hD.sub [0, 1, 2, 3, 4, 5, 6, 7, 8, 9, 10, 11] (by decide) rfl) hS ls (lv_sub hl [2, 3, 1, 0] rfl)
  have h_2 : n9_1 = menN cw g bc := h_2
  refine lv_iload_n hx hb dX8_menOf_45 rfl (lv_at hl 0 rfl) ?_
  have hP9 := hP.sub (ws' := (bL bo B1 B2 B3 B4 B5 B6 B7 ++ ([(fa, Sum.inr (3, [Value.ref cu, Value.ref rv, Value.ref bt, Value.int (nI bc), Value.int ho, Value.int fe])), (bt, Sum.inl (bc9, 10, Sum.inr (Sum.inr (Sum.inr (Sum.inr (fun j => some (bo j)))))))] : va_W))) [0, 1, 2, 3, 4, 5, 6, 7, 8, 9, 10, 11] rfl
  have hD9 := hD.sub (ws' := (bL bo B1 B2 B3 B4 B5 B6 B7 ++ ([(fa, Sum.inr (3, [Value.ref cu, Value.ref rv, Value.ref bt, Value.int (nI bc), Value.int ho, Value.int fe])), (bt, Sum.inl (bc9, 10, Sum.inr (Sum.inr (Sum.inr (Sum.inr (fun j => some (bo j)))))))] : va_W))) [0, 1, 2, 3, 4, 5, 6, 7, 8, 9, 10, 11] (by decide) rfl
  have hK9 := hK.sub (tys' := []) [] rfl
  refine W.widen (k := 0) (n := 0) (by decide) (by decide) ?_
  exact W.iret (v := nI n9_1) hx hb hr (fun t ht hW => ⟨⟨(nI n9_1), (), rfl, (congrArg nI h_2), by rw [ht]; exact hP9, va_K.moved hW.alike hK9, hD9⟩, hS.F ht⟩) hS.2.2 dX8_menOf_46
set_option maxHeartbeats 4000000 in
set_option maxRecDepth 100000 in
theorem lp_s_menLet {p : Program} {l : Launch} {e : Env} {s : State} {m : MethodId} {args : Array Value} {below : List Frame} {meth : Method} {c : Code} {Q : State → Prop} {A : Nat → Prop} {D : va_G} (F : mFix p s m args c cX8_menLetOff 5 RX8) (hA : ∀ q, s.heap.size ≤ q → A q) (h0 : Nat) (fa : Nat) (cu : Nat) (rv : Nat) (bt : Nat) (wy1 : Nat) (wy2 : Nat) (wy3 : Nat) (wy4 : Nat) (cu1 : Nat) (cu2 : Nat) (cu3 : Nat) (cu4 : Nat) (wc4 : ClassId) (cc4 : ClassId) (s4 : Nat → Int32) (cf4 : Nat → Int32) (qd : Int32) (cr : Int32) (sc : Int32) (to : Int32) (bc : Nat) (ho : Int32) (fe : Int32) (t9 : Nat) (fs : Nat → Nat) (mn : Nat → Nat) (sn : Nat) (hK : va_K D vwCl [(wc4, .int), (cc4, .int)] s)
    (kx_74 : ∀ (n9 : Nat), (n9 = letN mn fs t9 sn) → ∀ (H : Heap) (locs : List Loc), va_P D vwCl [(h0, Sum.inr (7, [Value.ref wy1, Value.ref wy2, Value.int qd, Value.ref wy3, Value.ref wy4, Value.int cr])), (wy4, Sum.inl (wc4, 4, Sum.inl s4)), (fa, Sum.inr (3, [Value.ref cu, Value.ref rv, Value.ref bt, Value.int (nI bc), Value.int ho, Value.int fe])), (cu, Sum.inr (1, [Value.ref cu1, Value.ref cu2, Value.ref cu3, Value.ref cu4, Value.int sc, Value.int to])), (cu4, Sum.inl (cc4, 4, Sum.inl cf4))] H → va_D A [(h0, Sum.inr (7, [Value.ref wy1, Value.ref wy2, Value.int qd, Value.ref wy3, Value.ref wy4, Value.int cr])), (wy4, Sum.inl (wc4, 4, Sum.inl s4)), (fa, Sum.inr (3, [Value.ref cu, Value.ref rv, Value.ref bt, Value.int (nI bc), Value.int ho, Value.int fe])), (cu, Sum.inr (1, [Value.ref cu1, Value.ref cu2, Value.ref cu3, Value.ref cu4, Value.int sc, Value.int to])), (cu4, Sum.inl (cc4, 4, Sum.inl cf4))] → va_S A s.heap H locs → ∀ ls : Array Slot, lv_has ls 5 [(3, Value.int (nI n9))] → W p l e ({ frames := 0, cells := 0, slots := 0, locals := 0 }) s m args below meth c H locs 0 0 Q (F0 m 74 ls [])) :
    ∀ n : Nat, ∀ (n9 : Nat) (t : Nat), (t ≤ 4) → (t9 ≤ 2000) → (sc = nI sn ∧ sn ≤ 4) → (t ≤ sn) → (∀ s, s < sn → s4 s = dv (fs s) ∧ okD (fs s)) → (∀ s, s < sn → cf4 s = nI (mn s) ∧ mn s ≤ 9) → (n9 = letN mn fs t9 t) → (4 - t) < n → ∀ (H : Heap) (locs : List Loc), va_P D vwCl [(h0, Sum.inr (7, [Value.ref wy1, Value.ref wy2, Value.int qd, Value.ref wy3, Value.ref wy4, Value.int cr])), (wy4, Sum.inl (wc4, 4, Sum.inl s4)), (fa, Sum.inr (3, [Value.ref cu, Value.ref rv, Value.ref bt, Value.int (nI bc), Value.int ho, Value.int fe])), (cu, Sum.inr (1, [Value.ref cu1, Value.ref cu2, Value.ref cu3, Value.ref cu4, Value.int sc, Value.int to])), (cu4, Sum.inl (cc4, 4, Sum.inl cf4))] H → va_D A [(h0, Sum.inr (7, [Value.ref wy1, Value.ref wy2, Value.int qd, Value.ref wy3, Value.ref wy4, Value.int cr])), (wy4, Sum.inl (wc4, 4, Sum.inl s4)), (fa, Sum.inr (3, [Value.ref cu, Value.ref rv, Value.ref bt, Value.int (nI bc), Value.int ho, Value.int fe])), (cu, Sum.inr (1, [Value.ref cu1, Value.ref cu2, Value.ref cu3, Value.ref cu4, Value.int sc, Value.int to])), (cu4, Sum.inl (cc4, 4, Sum.inl cf4))] → va_S A s.heap H locs → ∀ ls : Array Slot, lv_has ls 5 [(0, Value.ref h0), (1, Value.ref fa), (2, Value.int (nI t9)), (3, Value.int (nI n9)), (4, Value.int (nI t))] → W p l e ({ frames := 0, cells := 0, slots := 0, locals := 0 }) s m args below meth c H locs 0 0 Q (F0 m 5 ls []) := by
  intro n
  induction n with
  | zero => intro n9 t ht ht2 hsc htn hs4 hm4 hl9 hn; exact absurd hn (Nat.not_lt_zero _)
  | succ n ih =>
    intro n9 t ht ht2 hsc htn hs4 hm4 hl9 hn H locs hP hD hS ls hl
    obtain ⟨hx, hb, hml, hown, hts⟩ := id F
    refine lv_iload hx hb dX8_menLetOff_5 (lv_at hl 4 rfl) ?_
    refine lv_aload_n hx hb dX8_menLetOff_7 rfl (lv_at hl 1 rfl) ?_
    refine va_get (D := D) (ci := 3) (v := Value.ref cu) (C := RX3) (T := TX3) (N := 6) hx hb hts inG_X3 hown hK hP 2 rfl rfl 0 (by decide) (hts _ kw_1_216) (fun _ h9 => h9) rfl dX8_menLetOff_8 ?_
    refine va_get (D := D) (ci := 1) (v := Value.int sc) (C := RX1) (T := TX1) (N := 6) hx hb hts inG_X1 hown hK hP 3 rfl rfl 4 (by decide) (hts _ kw_1_107) (fun _ h9 => h9) rfl dX8_menLetOff_11 ?_
    refine lv_icmp_ge (tgt := 74) hx hb dX8_menLetOff_14 (by decide) (fun c_1 => ?_) (fun c_1 => ?_)
    · skip
      have c_1 := Int32.not_lt.mpr c_1
      have htn9 : sn ≤ t := nb_lt (by omega) (by omega) (by rw [← hsc.1]; exact c_1)
      exact kx_74 n9 ((show t = sn by omega) ▸ hl9) H locs (hP.sub [0, 1, 2, 3, 4] rfl) (hD.sub [0, 1, 2, 3, 4] (by decide) rfl) hS ls (lv_sub hl [3] rfl)
    · skip
      have c_1 := Int32.not_le.mp c_1
      have htn9 : t < sn := (nI_ltI (by omega) (by omega)).mp (by rw [← hsc.1]; exact c_1)
      refine lv_iload hx hb dX8_menLetOff_17 (lv_at hl 4 rfl) ?_
      refine lv_iconst (v := 4) hx hb dX8_menLetOff_19 (by decide) ?_
      refine lv_icmp_ge (tgt := 74) hx hb dX8_menLetOff_20 (by decide) (fun c_2 => ?_) (fun c_2 => ?_)
      · skip
        have c_2n : 4 ≤ t := (nI_leI (by omega) (by omega)).mp c_2
        have c_2 := Int32.not_lt.mpr c_2
        exact kx_74 n9 ((show t = sn by omega) ▸ hl9) H locs (hP.sub [0, 1, 2, 3, 4] rfl) (hD.sub [0, 1, 2, 3, 4] (by decide) rfl) hS ls (lv_sub hl [3] rfl)
      · skip
        have c_2n : t < 4 := nb_le (by omega) (by omega) c_2
        have c_2 := Int32.not_le.mp c_2
        refine lv_aload_n hx hb dX8_menLetOff_23 rfl (lv_at hl 0 rfl) ?_
        refine va_get (D := D) (ci := 7) (v := Value.ref wy4) (C := RX8) (T := TX8) (N := 6) hx hb hts inG_X8 hown hK hP 0 rfl rfl 4 (by decide) (hts _ kw_2_52) (fun _ h9 => h9) rfl dX8_menLetOff_24 ?_
        refine lv_iload hx hb dX8_menLetOff_27 (lv_at hl 4 rfl) ?_
        refine m_iald hx hb hK hP 1 0 rfl rfl t rfl (by omega) (by decide) dX8_menLetOff_29 ?_
        refine lv_topi (fun v_3 ev_3 => ?_)
        refine lv_iconst (v := -1) hx hb dX8_menLetOff_30 (by decide) ?_
        refine lv_icmp_eq (tgt := 68) hx hb dX8_menLetOff_31 (by decide) (fun c_4 => ?_) (fun c_4 => ?_)
        · skip
          have hz9 : t9 ≤ fs t := by have q := (dv_m1 (hs4 t htn9).2).mp ((hs4 t htn9).1.symm.trans (by rw [← ev_3]; exact c_4)); omega
          refine lv_iinc (v := nI (t + 1)) (lv' := [(4, Value.int (nI (t + 1))), (0, Value.ref h0), (1, Value.ref fa), (2, Value.int (nI t9)), (3, Value.int (nI n9))]) hx hb dX8_menLetOff_68 hl (k := 4) rfl (nI_add t 1) (by decide) rfl (fun ls hl => ?_)
          refine lv_goto (tgt := 5) hx hb dX8_menLetOff_71 (by decide) ?_
          exact ih n9 (t + 1) (by omega) (by omega) hsc (by omega) hs4 hm4 (hl9.trans (let_n hz9)) (by omega) H locs (hP.sub [0, 1, 2, 3, 4] rfl) (hD.sub [0, 1, 2, 3, 4] (by decide) rfl) hS ls (lv_sub hl [1, 2, 3, 4, 0] rfl)
        · skip
          have hf1 : fs t ≤ 100 := (hs4 t htn9).2.resolve_left (fun q => c_4 (by rw [ev_3]; exact (hs4 t htn9).1.trans ((dv_m1 (hs4 t htn9).2).mpr q)))
          have hf2 : s4 t = nI (fs t) := (hs4 t htn9).1.trans (dv_y hf1)
          refine lv_aload_n hx hb dX8_menLetOff_34 rfl (lv_at hl 0 rfl) ?_
          refine va_get (D := D) (ci := 7) (v := Value.ref wy4) (C := RX8) (T := TX8) (N := 6) hx hb hts inG_X8 hown hK hP 0 rfl rfl 4 (by decide) (hts _ kw_2_52) (fun _ h9 => h9) rfl dX8_menLetOff_35 ?_
          refine lv_iload hx hb dX8_menLetOff_38 (lv_at hl 4 rfl) ?_
          refine m_iald hx hb hK hP 1 0 rfl rfl t rfl (by omega) (by decide) dX8_menLetOff_40 ?_
          refine lv_topi (fun v_5 ev_5 => ?_)
          obtain rfl : v_5 = nI (fs t) := ev_5.trans hf2
          refine lv_iload_n hx hb dX8_menLetOff_41 rfl (lv_at hl 2 rfl) ?_
          refine lv_icmp_ge (tgt := 68) hx hb dX8_menLetOff_42 (by decide) (fun c_6 => ?_) (fun c_6 => ?_)
          · skip
            have c_6n : t9 ≤ (fs t) := (nI_leI (by omega) (by omega)).mp c_6
            have c_6 := Int32.not_lt.mpr c_6
            have hz9 : t9 ≤ fs t := c_6n
            refine lv_iinc (v := nI (t + 1)) (lv' := [(4, Value.int (nI (t + 1))), (0, Value.ref h0), (1, Value.ref fa), (2, Value.int (nI t9)), (3, Value.int (nI n9))]) hx hb dX8_menLetOff_68 hl (k := 4) rfl (nI_add t 1) (by decide) rfl (fun ls hl => ?_)
            refine lv_goto (tgt := 5) hx hb dX8_menLetOff_71 (by decide) ?_
            exact ih n9 (t + 1) (by omega) (by omega) hsc (by omega) hs4 hm4 (hl9.trans (let_n hz9)) (by omega) H locs (hP.sub [0, 1, 2, 3, 4] rfl) (hD.sub [0, 1, 2, 3, 4] (by decide) rfl) hS ls (lv_sub hl [1, 2, 3, 4, 0] rfl)
          · skip
            have c_6n : (fs t) < t9 := nb_le (by omega) (by omega) c_6
            have c_6 := Int32.not_le.mp c_6
            refine lv_iload_n hx hb dX8_menLetOff_45 rfl (lv_at hl 3 rfl) ?_
            refine lv_aload_n hx hb dX8_menLetOff_46 rfl (lv_at hl 1 rfl) ?_
            refine va_get (D := D) (ci := 3) (v := Value.ref cu) (C := RX3) (T := TX3) (N := 6) hx hb hts inG_X3 hown hK hP 2 rfl rfl 0 (by decide) (hts _ kw_1_216) (fun _ h9 => h9) rfl dX8_menLetOff_47 ?_
            refine va_get (D := D) (ci := 1) (v := Value.ref cu4) (C := RX1) (T := TX1) (N := 6) hx hb hts inG_X1 hown hK hP 3 rfl rfl 3 (by decide) (hts _ kw_1_105) (fun _ h9 => h9) rfl dX8_menLetOff_50 ?_
            refine lv_iload hx hb dX8_menLetOff_53 (lv_at hl 4 rfl) ?_
            refine m_iald hx hb hK hP 4 1 rfl rfl t rfl (by omega) (by decide) dX8_menLetOff_55 ?_
            refine lv_topi (fun v_7 ev_7 => ?_)
            obtain rfl : v_7 = nI (mn t) := ev_7.trans (hm4 t htn9).1
            refine lv_iload_n hx hb dX8_menLetOff_56 rfl (lv_at hl 2 rfl) ?_
            refine lv_aload_n hx hb dX8_menLetOff_57 rfl (lv_at hl 0 rfl) ?_
            refine va_get (D := D) (ci := 7) (v := Value.ref wy4) (C := RX8) (T := TX8) (N := 6) hx hb hts inG_X8 hown hK hP 0 rfl rfl 4 (by decide) (hts _ kw_2_52) (fun _ h9 => h9) rfl dX8_menLetOff_58 ?_
            refine lv_iload hx hb dX8_menLetOff_61 (lv_at hl 4 rfl) ?_
            refine m_iald hx hb hK hP 1 0 rfl rfl t rfl (by omega) (by decide) dX8_menLetOff_63 ?_
            refine lv_topi (fun v_8 ev_8 => ?_)
            obtain rfl : v_8 = nI (fs t) := ev_8.trans hf2
            refine lv_isub hx hb dX8_menLetOff_64 ?_
            refine lv_topi (fun z_9 ez_9 => ?_)
            obtain rfl : z_9 = nI (t9 - fs t) := ez_9.trans (nI_subN (by omega))
            refine lv_imul hx hb dX8_menLetOff_65 ?_
            refine lv_topi (fun z_10 ez_10 => ?_)
            obtain rfl : z_10 = nI ((mn t) * (t9 - fs t)) := ez_10.trans (pk_mul (mn t) (t9 - fs t))
            refine lv_iadd hx hb dX8_menLetOff_66 ?_
            refine lv_topi (fun z_11 ez_11 => ?_)
            obtain rfl : z_11 = nI (n9 + (mn t) * (t9 - fs t)) := ez_11.trans (nI_add n9 ((mn t) * (t9 - fs t)))
            refine lv_istore_n (lv' := [(3, Value.int (nI (n9 + (mn t) * (t9 - fs t)))), (0, Value.ref h0), (1, Value.ref fa), (2, Value.int (nI t9)), (4, Value.int (nI t))]) hx hb dX8_menLetOff_67 rfl hl (by decide) rfl (fun ls hl => ?_)
            refine lv_iinc (v := nI (t + 1)) (lv' := [(4, Value.int (nI (t + 1))), (3, Value.int (nI (n9 + (mn t) * (t9 - fs t)))), (0, Value.ref h0), (1, Value.ref fa), (2, Value.int (nI t9))]) hx hb dX8_menLetOff_68 hl (k := 4) rfl (nI_add t 1) (by decide) rfl (fun ls hl => ?_)
            refine lv_goto (tgt := 5) hx hb dX8_menLetOff_71 (by decide) ?_
            exact ih (n9 + (mn t) * (t9 - fs t)) (t + 1) (by omega) (by omega) hsc (by omega) hs4 hm4 (by rw [hl9]; rfl) (by omega) H locs (hP.sub [0, 1, 2, 3, 4] rfl) (hD.sub [0, 1, 2, 3, 4] (by decide) rfl) hS ls (lv_sub hl [2, 3, 4, 1, 0] rfl)
set_option maxHeartbeats 4000000 in
set_option maxRecDepth 100000 in
theorem s_menLetOff (l : Launch) (D : va_G) (h0 : Nat) (fa : Nat) (cu : Nat) (rv : Nat) (bt : Nat) (wy1 : Nat) (wy2 : Nat) (wy3 : Nat) (wy4 : Nat) (cu1 : Nat) (cu2 : Nat) (cu3 : Nat) (cu4 : Nat) (wc4 : ClassId) (cc4 : ClassId) (s4 : Nat → Int32) (cf4 : Nat → Int32) (qd : Int32) (cr : Int32) (sc : Int32) (to : Int32) (bc : Nat) (ho : Int32) (fe : Int32) (t9 : Nat) (fs : Nat → Nat) (mn : Nat → Nat) (sn : Nat) (ht2 : t9 ≤ 2000) (hsc : sc = nI sn ∧ sn ≤ 4) (hs4 : ∀ s, s < sn → s4 s = dv (fs s) ∧ okD (fs s)) (hm4 : ∀ s, s < sn → cf4 s = nI (mn s) ∧ mn s ≤ 9) : cI l yX8_menLetOff (.code yX8_menLetOff cX8_menLetOff 5 (some .int)) ({ frames := 0, cells := 0, slots := 0, locals := 0 }) D [(wc4, .int), (cc4, .int)] [(h0, Sum.inr (7, [Value.ref wy1, Value.ref wy2, Value.int qd, Value.ref wy3, Value.ref wy4, Value.int cr])), (wy4, Sum.inl (wc4, 4, Sum.inl s4)), (fa, Sum.inr (3, [Value.ref cu, Value.ref rv, Value.ref bt, Value.int (nI bc), Value.int ho, Value.int fe])), (cu, Sum.inr (1, [Value.ref cu1, Value.ref cu2, Value.ref cu3, Value.ref cu4, Value.int sc, Value.int to])), (cu4, Sum.inl (cc4, 4, Sum.inl cf4))] xT [Value.ref h0, Value.ref fa, Value.int (nI t9)] (S := Unit) (fun r _ => r = nI (letN mn fs t9 sn)) (fun _ => []) (fun _ => [(h0, Sum.inr (7, [Value.ref wy1, Value.ref wy2, Value.int qd, Value.ref wy3, Value.ref wy4, Value.int cr])), (wy4, Sum.inl (wc4, 4, Sum.inl s4)), (fa, Sum.inr (3, [Value.ref cu, Value.ref rv, Value.ref bt, Value.int (nI bc), Value.int ho, Value.int fe])), (cu, Sum.inr (1, [Value.ref cu1, Value.ref cu2, Value.ref cu3, Value.ref cu4, Value.int sc, Value.int to])), (cu4, Sum.inl (cc4, 4, Sum.inl cf4))]) := by
  intro sz
  refine Met.ofW (cc := cX8_menLetOff) (maxL := 5) (ret := (some .int)) (by decide) rfl ?_
  intro p e s m args below meth c s₁ B hml hv
  obtain ⟨rfl, hsz, hP, hK, hD0, hX⟩ := hv
  have hx := B.exec
  have hb := B.bytes
  have hr := B.returns
  have hts0 := atoms_spec (ws := .code yX8_menLetOff cX8_menLetOff 5 (some .int) :: gw) B.pre
  have hts := fun (w : Cond) (h : w ∈ gw) => hts0 w (List.mem_cons_of_mem _ h)
  have hown : s.vm.findClass RX8 = some m.cls := findClass_of_methodNamed B.named
  have hlocks := B.notSynchronized
  have F : mFix p s m _ c cX8_menLetOff 5 RX8 := ⟨hx, hb, hml, hown, hts⟩
  subst hsz
  have hD := hD0.self (sz := s.heap.size)
  generalize hAe : va_A [(h0, Sum.inr (7, [Value.ref wy1, Value.ref wy2, Value.int qd, Value.ref wy3, Value.ref wy4, Value.int cr])), (wy4, Sum.inl (wc4, 4, Sum.inl s4)), (fa, Sum.inr (3, [Value.ref cu, Value.ref rv, Value.ref bt, Value.int (nI bc), Value.int ho, Value.int fe])), (cu, Sum.inr (1, [Value.ref cu1, Value.ref cu2, Value.ref cu3, Value.ref cu4, Value.int sc, Value.int to])), (cu4, Sum.inl (cc4, 4, Sum.inl cf4))] s.heap.size = A at hD hX ⊢
  have hA : ∀ q : Nat, s.heap.size ≤ q → A q := fun q h => by rw [← hAe]; exact Or.inr h
  have hS : va_S A s.heap s.heap [] := va_S.rf
  have hl := lv_entry ([Value.ref h0, Value.ref fa, Value.int (nI t9)]) (n := 5) (Nat.le_of_ble_eq_true rfl)
  rw [lg_entry_eq]
  generalize (lg_sl ([Value.ref h0, Value.ref fa, Value.int (nI t9)]) ++ List.replicate (5 - (lg_sl ([Value.ref h0, Value.ref fa, Value.int (nI t9)])).length) Slot.unset).toArray = ls at hl ⊢
  have hl : lv_has ls 5 [(0, Value.ref h0), (1, Value.ref fa), (2, Value.int (nI t9))] := hl
  have hP : va_P D vwCl [(h0, Sum.inr (7, [Value.ref wy1, Value.ref wy2, Value.int qd, Value.ref wy3, Value.ref wy4, Value.int cr])), (wy4, Sum.inl (wc4, 4, Sum.inl s4)), (fa, Sum.inr (3, [Value.ref cu, Value.ref rv, Value.ref bt, Value.int (nI bc), Value.int ho, Value.int fe])), (cu, Sum.inr (1, [Value.ref cu1, Value.ref cu2, Value.ref cu3, Value.ref cu4, Value.int sc, Value.int to])), (cu4, Sum.inl (cc4, 4, Sum.inl cf4))] s.heap := hP
  refine lv_iconst (v := 0) hx hb dX8_menLetOff_0 (by decide) ?_
  refine lv_istore_n (lv' := [(3, Value.int 0), (0, Value.ref h0), (1, Value.ref fa), (2, Value.int (nI t9))]) hx hb dX8_menLetOff_1 rfl hl (by decide) rfl (fun ls hl => ?_)
  refine lv_iconst (v := 0) hx hb dX8_menLetOff_2 (by decide) ?_
  refine lv_istore (lv' := [(4, Value.int 0), (3, Value.int 0), (0, Value.ref h0), (1, Value.ref fa), (2, Value.int (nI t9))]) hx hb dX8_menLetOff_3 hl (by decide) rfl (fun ls hl => ?_)
  refine lp_s_menLet F hA h0 fa cu rv bt wy1 wy2 wy3 wy4 cu1 cu2 cu3 cu4 wc4 cc4 s4 cf4 qd cr sc to bc ho fe t9 fs mn sn (hK.sub [0, 1] rfl) (fun n9_1 h_2 H locs hP hD hS ls hl => ?_) _ 0 0 (by omega) (by omega) hsc (Nat.zero_le _) hs4 hm4 rfl (Nat.lt_succ_self _) _ _ (hP.sub [0, 1, 2, 3, 4] rfl) (hD.sub [0, 1, 2, 3, 4] (by decide) rfl) hS ls (lv_sub hl [2, 3, 4, 1, 0] rfl)
  have h_2 : n9_1 = letN mn fs t9 sn := h_2
  refine lv_iload_n hx hb dX8_menLetOff_74 rfl (lv_at hl 0 rfl) ?_
  have hP9 := hP.sub (ws' := [(h0, Sum.inr (7, [Value.ref wy1, Value.ref wy2, Value.int qd, Value.ref wy3, Value.ref wy4, Value.int cr])), (wy4, Sum.inl (wc4, 4, Sum.inl s4)), (fa, Sum.inr (3, [Value.ref cu, Value.ref rv, Value.ref bt, Value.int (nI bc), Value.int ho, Value.int fe])), (cu, Sum.inr (1, [Value.ref cu1, Value.ref cu2, Value.ref cu3, Value.ref cu4, Value.int sc, Value.int to])), (cu4, Sum.inl (cc4, 4, Sum.inl cf4))]) [0, 1, 2, 3, 4] rfl
  have hD9 := hD.sub (ws' := [(h0, Sum.inr (7, [Value.ref wy1, Value.ref wy2, Value.int qd, Value.ref wy3, Value.ref wy4, Value.int cr])), (wy4, Sum.inl (wc4, 4, Sum.inl s4)), (fa, Sum.inr (3, [Value.ref cu, Value.ref rv, Value.ref bt, Value.int (nI bc), Value.int ho, Value.int fe])), (cu, Sum.inr (1, [Value.ref cu1, Value.ref cu2, Value.ref cu3, Value.ref cu4, Value.int sc, Value.int to])), (cu4, Sum.inl (cc4, 4, Sum.inl cf4))]) [0, 1, 2, 3, 4] (by decide) rfl
  have hK9 := hK.sub (tys' := []) [] rfl
  refine W.widen (k := 0) (n := 0) (by decide) (by decide) ?_
  exact W.iret (v := nI n9_1) hx hb hr (fun t ht hW => ⟨⟨(nI n9_1), (), rfl, (congrArg nI h_2), by rw [ht]; exact hP9, va_K.moved hW.alike hK9, hD9⟩, hS.F ht⟩) hS.2.2 dX8_menLetOff_75
set_option maxHeartbeats 4000000 in
set_option maxRecDepth 100000 in
theorem lp_s_minutes {p : Program} {l : Launch} {e : Env} {s : State} {m : MethodId} {args : Array Value} {below : List Frame} {meth : Method} {c : Code} {Q : State → Prop} {A : Nat → Prop} {D : va_G} (F : mFix p s m args c cX8_minutesFor 5 RX8) (hA : ∀ q, s.heap.size ≤ q → A q) (h0 : Nat) (fa : Nat) (cu : Nat) (rv : Nat) (bt : Nat) (wy1 : Nat) (wy2 : Nat) (wy3 : Nat) (wy4 : Nat) (cu1 : Nat) (cu2 : Nat) (cu3 : Nat) (cu4 : Nat) (wc4 : ClassId) (cc4 : ClassId) (s4 : Nat → Int32) (cf4 : Nat → Int32) (qd : Int32) (cr : Int32) (sc : Int32) (to : Int32) (bc : Nat) (ho : Int32) (fe : Int32) (me : Nat) (al : Nat) (fs : Nat → Nat) (mn : Nat → Nat) (sn : Nat) (hK : va_K D vwCl [(wc4, .int), (cc4, .int)] s)
    (kx_28 : ∀ (mi : Nat), (al ≤ mi ∧ mi ≤ 2000 ∧ (mi = 2000 ∨ me ≤ letN mn fs mi sn) ∧ ∀ u, al ≤ u → u < mi → letN mn fs u sn < me) → ∀ (H : Heap) (locs : List Loc), va_P D vwCl [(h0, Sum.inr (7, [Value.ref wy1, Value.ref wy2, Value.int qd, Value.ref wy3, Value.ref wy4, Value.int cr])), (wy4, Sum.inl (wc4, 4, Sum.inl s4)), (fa, Sum.inr (3, [Value.ref cu, Value.ref rv, Value.ref bt, Value.int (nI bc), Value.int ho, Value.int fe])), (cu, Sum.inr (1, [Value.ref cu1, Value.ref cu2, Value.ref cu3, Value.ref cu4, Value.int sc, Value.int to])), (cu4, Sum.inl (cc4, 4, Sum.inl cf4))] H → va_D A [(h0, Sum.inr (7, [Value.ref wy1, Value.ref wy2, Value.int qd, Value.ref wy3, Value.ref wy4, Value.int cr])), (wy4, Sum.inl (wc4, 4, Sum.inl s4)), (fa, Sum.inr (3, [Value.ref cu, Value.ref rv, Value.ref bt, Value.int (nI bc), Value.int ho, Value.int fe])), (cu, Sum.inr (1, [Value.ref cu1, Value.ref cu2, Value.ref cu3, Value.ref cu4, Value.int sc, Value.int to])), (cu4, Sum.inl (cc4, 4, Sum.inl cf4))] → va_S A s.heap H locs → ∀ ls : Array Slot, lv_has ls 5 [(4, Value.int (nI mi))] → W p l e ({ frames := 1, cells := 0, slots := 0, locals := 24 }) s m args below meth c H locs 0 0 Q (F0 m 28 ls [])) :
    ∀ n : Nat, ∀ (mi : Nat), (me ≤ 990) → (mi ≤ 2000) → (al ≤ mi) → (sc = nI sn ∧ sn ≤ 4) → (∀ s, s < sn → s4 s = dv (fs s) ∧ okD (fs s)) → (∀ s, s < sn → cf4 s = nI (mn s) ∧ mn s ≤ 9) → (∀ u, al ≤ u → u < mi → letN mn fs u sn < me) → (2000 - mi) < n → ∀ (H : Heap) (locs : List Loc), va_P D vwCl [(h0, Sum.inr (7, [Value.ref wy1, Value.ref wy2, Value.int qd, Value.ref wy3, Value.ref wy4, Value.int cr])), (wy4, Sum.inl (wc4, 4, Sum.inl s4)), (fa, Sum.inr (3, [Value.ref cu, Value.ref rv, Value.ref bt, Value.int (nI bc), Value.int ho, Value.int fe])), (cu, Sum.inr (1, [Value.ref cu1, Value.ref cu2, Value.ref cu3, Value.ref cu4, Value.int sc, Value.int to])), (cu4, Sum.inl (cc4, 4, Sum.inl cf4))] H → va_D A [(h0, Sum.inr (7, [Value.ref wy1, Value.ref wy2, Value.int qd, Value.ref wy3, Value.ref wy4, Value.int cr])), (wy4, Sum.inl (wc4, 4, Sum.inl s4)), (fa, Sum.inr (3, [Value.ref cu, Value.ref rv, Value.ref bt, Value.int (nI bc), Value.int ho, Value.int fe])), (cu, Sum.inr (1, [Value.ref cu1, Value.ref cu2, Value.ref cu3, Value.ref cu4, Value.int sc, Value.int to])), (cu4, Sum.inl (cc4, 4, Sum.inl cf4))] → va_S A s.heap H locs → ∀ ls : Array Slot, lv_has ls 5 [(0, Value.ref h0), (1, Value.ref fa), (2, Value.int (nI me)), (4, Value.int (nI mi))] → W p l e ({ frames := 1, cells := 0, slots := 0, locals := 24 }) s m args below meth c H locs 0 0 Q (F0 m 3 ls []) := by
  intro n
  induction n with
  | zero => intro mi hme hmi hal2 hsc hs4 hm4 hlo hn; exact absurd hn (Nat.not_lt_zero _)
  | succ n ih =>
    intro mi hme hmi hal2 hsc hs4 hm4 hlo hn H locs hP hD hS ls hl
    obtain ⟨hx, hb, hml, hown, hts⟩ := id F
    refine lv_iload hx hb dX8_minutesFor_3 (lv_at hl 3 rfl) ?_
    refine lv_sipush (v := 2000) hx hb dX8_minutesFor_5 (by decide) ?_
    refine lv_icmp_ge (tgt := 28) hx hb dX8_minutesFor_8 (by decide) (fun c_1 => ?_) (fun c_1 => ?_)
    · skip
      have c_1n : 2000 ≤ mi := (nI_leI (by omega) (by omega)).mp c_1
      have c_1 := Int32.not_lt.mpr c_1
      exact kx_28 mi (⟨by omega, by omega, Or.inl (by omega), hlo⟩) H locs (hP.sub [0, 1, 2, 3, 4] rfl) (hD.sub [0, 1, 2, 3, 4] (by decide) rfl) hS ls (lv_sub hl [3] rfl)
    · skip
      have c_1n : mi < 2000 := nb_le (by omega) (by omega) c_1
      have c_1 := Int32.not_le.mp c_1
      refine lv_aload_n hx hb dX8_minutesFor_11 rfl (lv_at hl 0 rfl) ?_
      refine lv_aload_n hx hb dX8_minutesFor_12 rfl (lv_at hl 1 rfl) ?_
      refine lv_iload hx hb dX8_minutesFor_13 (lv_at hl 3 rfl) ?_
      refine mc_Vi (rest := []) (wr := []) F hK hP hD hS hA (s_menLetOff l D h0 fa cu rv bt wy1 wy2 wy3 wy4 cu1 cu2 cu3 cu4 wc4 cc4 s4 cf4 qd cr sc to bc ho fe mi fs mn sn (by omega) hsc hs4 hm4) ⟨gk_X8_88.1, gk_X8_88.2, Nat.le_of_ble_eq_true rfl, Nat.le_of_ble_eq_true rfl⟩ [0, 1, 2, 3, 4] [] [0, 1] ⟨rfl, rfl, rfl, rfl, by decide⟩ rfl xT_move (fun _ _ _ => trivial) 0 rfl rfl rfl hl.1 rfl (Nat.le_of_ble_eq_true rfl) dX8_minutesFor_15 ⟨Nat.le_of_ble_eq_true rfl, Nat.le_of_ble_eq_true rfl⟩ (fun r_2 _ H locs hw hK1 hP hD hS => ?_)
      have hP : va_P D vwCl [(h0, Sum.inr (7, [Value.ref wy1, Value.ref wy2, Value.int qd, Value.ref wy3, Value.ref wy4, Value.int cr])), (wy4, Sum.inl (wc4, 4, Sum.inl s4)), (fa, Sum.inr (3, [Value.ref cu, Value.ref rv, Value.ref bt, Value.int (nI bc), Value.int ho, Value.int fe])), (cu, Sum.inr (1, [Value.ref cu1, Value.ref cu2, Value.ref cu3, Value.ref cu4, Value.int sc, Value.int to])), (cu4, Sum.inl (cc4, 4, Sum.inl cf4))] H := hP
      have hD : va_D A [(h0, Sum.inr (7, [Value.ref wy1, Value.ref wy2, Value.int qd, Value.ref wy3, Value.ref wy4, Value.int cr])), (wy4, Sum.inl (wc4, 4, Sum.inl s4)), (fa, Sum.inr (3, [Value.ref cu, Value.ref rv, Value.ref bt, Value.int (nI bc), Value.int ho, Value.int fe])), (cu, Sum.inr (1, [Value.ref cu1, Value.ref cu2, Value.ref cu3, Value.ref cu4, Value.int sc, Value.int to])), (cu4, Sum.inl (cc4, 4, Sum.inl cf4))] := hD
      have hw_3 : r_2 = nI (letN mn fs mi sn) := hw
      obtain rfl : r_2 = nI (letN mn fs mi sn) := hw_3
      have hll := letN_le (mn := mn) (fs := fs) (t := mi) (by omega) sn (fun s hs => (hm4 s hs).2)
      refine lv_iload_n hx hb dX8_minutesFor_18 rfl (lv_at hl 2 rfl) ?_
      refine lv_icmp_ge (tgt := 28) hx hb dX8_minutesFor_19 (by decide) (fun c_4 => ?_) (fun c_4 => ?_)
      · skip
        have c_4n : me ≤ (letN mn fs mi sn) := (nI_leI (by omega) (by omega)).mp c_4
        have c_4 := Int32.not_lt.mpr c_4
        exact kx_28 mi (⟨by omega, by omega, Or.inr c_4n, hlo⟩) H locs (hP.sub [0, 1, 2, 3, 4] rfl) (hD.sub [0, 1, 2, 3, 4] (by decide) rfl) hS ls (lv_sub hl [3] rfl)
      · skip
        have c_4n : (letN mn fs mi sn) < me := nb_le (by omega) (by omega) c_4
        have c_4 := Int32.not_le.mp c_4
        refine lv_iinc (v := nI (mi + 1)) (lv' := [(4, Value.int (nI (mi + 1))), (0, Value.ref h0), (1, Value.ref fa), (2, Value.int (nI me))]) hx hb dX8_minutesFor_22 hl (k := 3) rfl (nI_add mi 1) (by decide) rfl (fun ls hl => ?_)
        refine lv_goto (tgt := 3) hx hb dX8_minutesFor_25 (by decide) ?_
        exact ih (mi + 1) (by omega) (by omega) (by omega) hsc hs4 hm4 (fun u q1 q2 => by rcases (show u < mi ∨ u = mi by omega) with q | rfl; exact hlo u q1 q; exact c_4n) (by omega) H locs (hP.sub [0, 1, 2, 3, 4] rfl) (hD.sub [0, 1, 2, 3, 4] (by decide) rfl) hS ls (lv_sub hl [1, 2, 3, 0] rfl)
set_option maxHeartbeats 4000000 in
set_option maxRecDepth 100000 in
theorem s_minutesFor (l : Launch) (D : va_G) (h0 : Nat) (fa : Nat) (cu : Nat) (rv : Nat) (bt : Nat) (wy1 : Nat) (wy2 : Nat) (wy3 : Nat) (wy4 : Nat) (cu1 : Nat) (cu2 : Nat) (cu3 : Nat) (cu4 : Nat) (wc4 : ClassId) (cc4 : ClassId) (s4 : Nat → Int32) (cf4 : Nat → Int32) (qd : Int32) (cr : Int32) (sc : Int32) (to : Int32) (bc : Nat) (ho : Int32) (fe : Int32) (me : Nat) (al : Nat) (fs : Nat → Nat) (mn : Nat → Nat) (sn : Nat) (hme : me ≤ 990) (hal : al ≤ 2000) (hsc : sc = nI sn ∧ sn ≤ 4) (hs4 : ∀ s, s < sn → s4 s = dv (fs s) ∧ okD (fs s)) (hm4 : ∀ s, s < sn → cf4 s = nI (mn s) ∧ mn s ≤ 9) : cI l yX8_minutesFor (.code yX8_minutesFor cX8_minutesFor 5 (some .int)) ({ frames := 1, cells := 0, slots := 0, locals := 24 }) D [(wc4, .int), (cc4, .int)] [(h0, Sum.inr (7, [Value.ref wy1, Value.ref wy2, Value.int qd, Value.ref wy3, Value.ref wy4, Value.int cr])), (wy4, Sum.inl (wc4, 4, Sum.inl s4)), (fa, Sum.inr (3, [Value.ref cu, Value.ref rv, Value.ref bt, Value.int (nI bc), Value.int ho, Value.int fe])), (cu, Sum.inr (1, [Value.ref cu1, Value.ref cu2, Value.ref cu3, Value.ref cu4, Value.int sc, Value.int to])), (cu4, Sum.inl (cc4, 4, Sum.inl cf4))] xT [Value.ref h0, Value.ref fa, Value.int (nI me), Value.int (nI al)] (S := Unit) (fun r _ => ∃ q : Nat, r = nI q ∧ al ≤ q ∧ q ≤ 2000 ∧ (q = 2000 ∨ me ≤ letN mn fs q sn) ∧ ∀ u, al ≤ u → u < q → letN mn fs u sn < me) (fun _ => []) (fun _ => [(h0, Sum.inr (7, [Value.ref wy1, Value.ref wy2, Value.int qd, Value.ref wy3, Value.ref wy4, Value.int cr])), (wy4, Sum.inl (wc4, 4, Sum.inl s4)), (fa, Sum.inr (3, [Value.ref cu, Value.ref rv, Value.ref bt, Value.int (nI bc), Value.int ho, Value.int fe])), (cu, Sum.inr (1, [Value.ref cu1, Value.ref cu2, Value.ref cu3, Value.ref cu4, Value.int sc, Value.int to])), (cu4, Sum.inl (cc4, 4, Sum.inl cf4))]) := by
  intro sz
  refine Met.ofW (cc := cX8_minutesFor) (maxL := 5) (ret := (some .int)) (by decide) rfl ?_
  intro p e s m args below meth c s₁ B hml hv
  obtain ⟨rfl, hsz, hP, hK, hD0, hX⟩ := hv
  have hx := B.exec
  have hb := B.bytes
  have hr := B.returns
  have hts0 := atoms_spec (ws := .code yX8_minutesFor cX8_minutesFor 5 (some .int) :: gw) B.pre
  have hts := fun (w : Cond) (h : w ∈ gw) => hts0 w (List.mem_cons_of_mem _ h)
  have hown : s.vm.findClass RX8 = some m.cls := findClass_of_methodNamed B.named
  have hlocks := B.notSynchronized
  have F : mFix p s m _ c cX8_minutesFor 5 RX8 := ⟨hx, hb, hml, hown, hts⟩
  subst hsz
  have hD := hD0.self (sz := s.heap.size)
  generalize hAe : va_A [(h0, Sum.inr (7, [Value.ref wy1, Value.ref wy2, Value.int qd, Value.ref wy3, Value.ref wy4, Value.int cr])), (wy4, Sum.inl (wc4, 4, Sum.inl s4)), (fa, Sum.inr (3, [Value.ref cu, Value.ref rv, Value.ref bt, Value.int (nI bc), Value.int ho, Value.int fe])), (cu, Sum.inr (1, [Value.ref cu1, Value.ref cu2, Value.ref cu3, Value.ref cu4, Value.int sc, Value.int to])), (cu4, Sum.inl (cc4, 4, Sum.inl cf4))] s.heap.size = A at hD hX ⊢
  have hA : ∀ q : Nat, s.heap.size ≤ q → A q := fun q h => by rw [← hAe]; exact Or.inr h
  have hS : va_S A s.heap s.heap [] := va_S.rf
  have hl := lv_entry ([Value.ref h0, Value.ref fa, Value.int (nI me), Value.int (nI al)]) (n := 5) (Nat.le_of_ble_eq_true rfl)
  rw [lg_entry_eq]
  generalize (lg_sl ([Value.ref h0, Value.ref fa, Value.int (nI me), Value.int (nI al)]) ++ List.replicate (5 - (lg_sl ([Value.ref h0, Value.ref fa, Value.int (nI me), Value.int (nI al)])).length) Slot.unset).toArray = ls at hl ⊢
  have hl : lv_has ls 5 [(0, Value.ref h0), (1, Value.ref fa), (2, Value.int (nI me)), (3, Value.int (nI al))] := hl
  have hP : va_P D vwCl [(h0, Sum.inr (7, [Value.ref wy1, Value.ref wy2, Value.int qd, Value.ref wy3, Value.ref wy4, Value.int cr])), (wy4, Sum.inl (wc4, 4, Sum.inl s4)), (fa, Sum.inr (3, [Value.ref cu, Value.ref rv, Value.ref bt, Value.int (nI bc), Value.int ho, Value.int fe])), (cu, Sum.inr (1, [Value.ref cu1, Value.ref cu2, Value.ref cu3, Value.ref cu4, Value.int sc, Value.int to])), (cu4, Sum.inl (cc4, 4, Sum.inl cf4))] s.heap := hP
  refine lv_iload_n hx hb dX8_minutesFor_0 rfl (lv_at hl 3 rfl) ?_
  refine lv_istore (lv' := [(4, Value.int (nI al)), (0, Value.ref h0), (1, Value.ref fa), (2, Value.int (nI me)), (3, Value.int (nI al))]) hx hb dX8_minutesFor_1 hl (by decide) rfl (fun ls hl => ?_)
  refine lp_s_minutes F hA h0 fa cu rv bt wy1 wy2 wy3 wy4 cu1 cu2 cu3 cu4 wc4 cc4 s4 cf4 qd cr sc to bc ho fe me al fs mn sn (hK.sub [0, 1] rfl) (fun mi_1 h_2 H locs hP hD hS ls hl => ?_) _ al (by omega) (by omega) (by omega) hsc hs4 hm4 (fun u q1 q2 => absurd q2 (by omega)) (Nat.lt_succ_self _) _ _ (hP.sub [0, 1, 2, 3, 4] rfl) (hD.sub [0, 1, 2, 3, 4] (by decide) rfl) hS ls (lv_sub hl [1, 2, 3, 0] rfl)
  have h_2 : al ≤ mi_1 ∧ mi_1 ≤ 2000 ∧ (mi_1 = 2000 ∨ me ≤ letN mn fs mi_1 sn) ∧ ∀ u, al ≤ u → u < mi_1 → letN mn fs u sn < me := h_2
  refine lv_iload hx hb dX8_minutesFor_28 (lv_at hl 0 rfl) ?_
  have hP9 := hP.sub (ws' := [(h0, Sum.inr (7, [Value.ref wy1, Value.ref wy2, Value.int qd, Value.ref wy3, Value.ref wy4, Value.int cr])), (wy4, Sum.inl (wc4, 4, Sum.inl s4)), (fa, Sum.inr (3, [Value.ref cu, Value.ref rv, Value.ref bt, Value.int (nI bc), Value.int ho, Value.int fe])), (cu, Sum.inr (1, [Value.ref cu1, Value.ref cu2, Value.ref cu3, Value.ref cu4, Value.int sc, Value.int to])), (cu4, Sum.inl (cc4, 4, Sum.inl cf4))]) [0, 1, 2, 3, 4] rfl
  have hD9 := hD.sub (ws' := [(h0, Sum.inr (7, [Value.ref wy1, Value.ref wy2, Value.int qd, Value.ref wy3, Value.ref wy4, Value.int cr])), (wy4, Sum.inl (wc4, 4, Sum.inl s4)), (fa, Sum.inr (3, [Value.ref cu, Value.ref rv, Value.ref bt, Value.int (nI bc), Value.int ho, Value.int fe])), (cu, Sum.inr (1, [Value.ref cu1, Value.ref cu2, Value.ref cu3, Value.ref cu4, Value.int sc, Value.int to])), (cu4, Sum.inl (cc4, 4, Sum.inl cf4))]) [0, 1, 2, 3, 4] (by decide) rfl
  have hK9 := hK.sub (tys' := []) [] rfl
  refine W.widen (k := 0) (n := 0) (by decide) (by decide) ?_
  exact W.iret (v := nI mi_1) hx hb hr (fun t ht hW => ⟨⟨(nI mi_1), (), rfl, ⟨_, rfl, h_2⟩, by rw [ht]; exact hP9, va_K.moved hW.alike hK9, hD9⟩, hS.F ht⟩) hS.2.2 dX8_minutesFor_30
