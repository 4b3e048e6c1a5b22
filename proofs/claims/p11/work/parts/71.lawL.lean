set_option maxHeartbeats 4000000 in
set_option maxRecDepth 100000 in
theorem lw_loop {p : Program} {l : Launch} {e : Env} {s : State} {m : MethodId} {args : Array Value} {below : List Frame} {meth : Method} {c : Code} {Q : State → Prop} {A : Nat → Prop} {D : va_G} (F : mFix p s m args c cL_law 7 RL) (hA : ∀ q, s.heap.size ≤ q → A q) (bo : Nat → Nat) (h0 : Nat) (tp : Nat) (rd : Nat) (dr : Nat) (fa : Nat) (ly : Nat) (wy : Nat) (tp1 : Nat) (tc : ClassId) (va : Nat) (vc : ClassId) (dr1 : Nat) (dr2 : Nat) (dr3 : Nat) (dr4 : Nat) (ec1 : ClassId) (ec2 : ClassId) (ec3 : ClassId) (ec4 : ClassId) (cu : Nat) (rv : Nat) (bt : Nat) (cu1 : Nat) (cu2 : Nat) (cu3 : Nat) (cu4 : Nat) (cc1 : ClassId) (cc2 : ClassId) (cc3 : ClassId) (cc4 : ClassId) (q1 : Nat) (q2 : Nat) (q3 : Nat) (q4 : Nat) (q5 : Nat) (q6 : Nat) (cy1 : ClassId) (cy2 : ClassId) (cy3 : ClassId) (cy4 : ClassId) (cy5 : ClassId) (cy6 : ClassId) (bc9 : ClassId) (ly1 : Nat) (ly2 : Nat) (ly3 : Nat) (ly4 : Nat) (ly5 : Nat) (lc1 : ClassId) (lc2 : ClassId) (lc3 : ClassId) (lc4 : ClassId) (lc5 : ClassId) (wy1 : Nat) (wy2 : Nat) (wy3 : Nat) (wy4 : Nat) (wc1 : ClassId) (wc2 : ClassId) (wc3 : ClassId) (wc4 : ClassId) (mo : Nat) (m_tape : Nat) (m_rule : Nat) (m_rules : Nat) (m_stair : Nat) (m_low : Nat) (m_high : Nat) (m_crack : Nat) (m_weight : Nat) (m_fire : Nat) (m_crowd : Nat) (m_state : Nat) (m_where : Nat) (m_words : Nat) (m_told : Nat) (m_breaks : Nat) (m_row : Nat) (m_tried : Nat) (m_steps : Nat) (m_paths : Nat) (y_tape : ClassId) (y_rule : ClassId) (y_rules : ClassId) (y_stair : ClassId) (y_low : ClassId) (y_high : ClassId) (y_crack : ClassId) (y_weight : ClassId) (y_fire : ClassId) (y_crowd : ClassId) (y_state : ClassId) (y_where : ClassId) (y_words : ClassId) (y_told : ClassId) (y_breaks : ClassId) (y_row : ClassId) (y_tried : ClassId) (y_steps : ClassId) (y_paths : ClassId) (qo : Nat) (yo : ClassId) (us : Nat) (e1 : Nat) (e2 : Nat) (e3 : Nat) (e4 : Nat) (en : Nat → Nat) (kk : Nat → Nat) (b : Nat) (L : Nat) (xs : Nat → Int32) (hK : va_K D vwCl [(tc, .int), (vc, .int), (ec1, .int), (ec2, .int), (ec3, .int), (ec4, .int), (cc1, .int), (cc2, .int), (cc3, .int), (cc4, .int), (cy1, .int), (cy2, .int), (cy3, .int), (cy4, .int), (cy5, .boolean), (cy6, .boolean), (bc9, .object RX0), (lc1, .int), (lc2, .int), (lc3, .int), (lc4, .boolean), (lc5, .int), (wc1, .int), (wc2, .int), (wc3, .int), (wc4, .int), (y_tape, .int), (y_rule, .int), (y_rules, .int), (y_stair, .int), (y_low, .int), (y_high, .int), (y_crack, .boolean), (y_weight, .int), (y_fire, .boolean), (y_crowd, .int), (y_state, .int), (y_where, .int), (y_words, .int), (y_told, .boolean), (y_breaks, .boolean), (y_row, .int), (y_tried, .int), (y_steps, .int), (y_paths, .int), (yo, .long)] s) (hXC : xC us en kk A s) (hXE : xE e1 e2 e3 e4 A s) (hXs : va_X b L xs s s.heap) (hbl : b < s.heap.size) (hbA : ¬ A b) (hlt : l.stackTraces = false)
    (kx_689 : ∀ (t : Nat), (7 * t ≤ 3584) → ∀ (H : Heap) (locs : List Loc), va_P D vwCl [] H → va_D A [] → va_S A s.heap H locs → ∀ ls : Array Slot, lv_has ls 7 [] → W p l e (room_1) s m args below meth c H locs (67 + t) (3176 + 6 * t) Q (F0 m 689 ls [])) :
    ∀ n : Nat, ∀ (ln : Nat) (tf : Nat → Int32) (lnm : Nat) (s_thrown : Int32) (f_tape : Nat → Int32) (fk : Int32) (fp : Int32) (tx : Nat) (rl : Int32) (nx : Int32) (tk : Int32) (sa : Int32) (vl : Int32) (fv : Nat → Int32) (dsc : Int32) (dto : Int32) (ef1 : Nat → Int32) (ef2 : Nat → Int32) (ef3 : Nat → Int32) (ef4 : Nat → Int32) (sc : Int32) (to : Int32) (cf1 : Nat → Int32) (cf2 : Nat → Int32) (cf3 : Nat → Int32) (cf4 : Nat → Int32) (sn : Nat) (s_readStairs : Int32) (s_fault : Int32) (s_faultPlace : Int32) (s_end : Int32) (s_next : Int32) (s_kind : Int32) (s_which : Int32) (s_place : Int32) (s_read : Int32) (f_stair : Nat → Int32) (f_rules : Nat → Int32) (f_told : Nat → Int32) (f_rule : Nat → Int32) (P : PSt) (bc : Nat) (ho : Int32) (fe : Int32) (w : Nat) (h : Nat) (f1 : Nat → Int32) (f2 : Nat → Int32) (f3 : Nat → Int32) (f4 : Nat → Int32) (f5 : Nat → Int32) (wm : Nat) (hm : Nat) (bcm : Nat) (s_hours : Int32) (s_fees : Int32) (f_low : Nat → Int32) (f_high : Nat → Int32) (f_crack : Nat → Int32) (B1 : Nat → Int32) (B2 : Nat → Int32) (B3 : Nat → Int32) (B4 : Nat → Int32) (B5 : Nat → Int32) (B6 : Nat → Int32) (B7 : Nat → Int32) (f_weight : Nat → Int32) (f_fire : Nat → Int32) (f_crowd : Nat → Int32) (f_state : Nat → Int32) (wt : Nat → Nat) (f_where : Nat → Int32) (wh : Nat → Nat) (f6 : Nat → Int32) (f_breaks : Nat → Int32) (lk : Int32) (wn : Int32) (on : Int32) (ab : Int32) (l1 : Nat → Int32) (l2 : Nat → Int32) (l3 : Nat → Int32) (l4 : Nat → Int32) (l5 : Nat → Int32) (s_looks : Int32) (f_row : Nat → Int32) (f_tried : Nat → Int32) (qd : Int32) (cr : Int32) (s1 : Nat → Int32) (s2 : Nat → Int32) (s3 : Nat → Int32) (s4 : Nat → Int32) (f_steps : Nat → Int32) (f_paths : Nat → Int32) (fo : Nat → Int64) (t : Nat), (ln ≤ 400) → (bc ≤ 10) → (w ≤ 10) → (h ≤ 10) → (sn ≤ 4) → (rOK 100 f_stair 24) → (lnm = ln) → (bcm = bc) → (wm = w) → (hm = h) → (f_tape = tf) → (s_fault = fk) → (s_faultPlace = fp) → (f_low = f1) → (f_high = f2) → (f_crack = f5) → (f_weight = B2) → (f_fire = B3) → (f_crowd = B4) → (f_state = B5) → (s_hours = ho) → (s_fees = fe) → (CI bc w h B1 B2 B5 B6 B7 f3 f4 wt wh) → (∀ b, b < bc → B5 b = 1 → f_where b = nI (wh b)) → (Kc P cf1 cf2 cf3 cf4 sc) → (Km P sn f_rule f_stair) → (PB P) → (∀ c, c < 100 → 0 ≤ (f1 c).toInt ∧ (f1 c).toInt ≤ 99) → (∀ c, ¬ (c % 10 < w ∧ c / 10 < h) → f5 c = 0) → (L ≤ 3584) → (7 * t ≤ 3584) → (L - 7 * t) < n → ∀ (H : Heap) (locs : List Loc), va_P D vwCl (bL bo B1 B2 B3 B4 B5 B6 B7 ++ ([(h0, Sum.inr (8, [Value.ref tp, Value.ref rd, Value.ref dr, Value.ref fa, Value.ref ly, Value.ref wy])), (tp, Sum.inr (6, [Value.ref tp1, Value.int (nI ln)])), (tp1, Sum.inl (tc, 400, Sum.inl tf)), (rd, Sum.inr (2, [Value.int fk, Value.int fp, Value.ref va, Value.ref tx, Value.int rl, Value.int nx, Value.int tk, Value.int sa, Value.int vl])), (va, Sum.inl (vc, 3, Sum.inl fv)), (dr, Sum.inr (1, [Value.ref dr1, Value.ref dr2, Value.ref dr3, Value.ref dr4, Value.int dsc, Value.int dto])), (dr1, Sum.inl (ec1, 8, Sum.inl ef1)), (dr2, Sum.inl (ec2, 4, Sum.inl ef2)), (dr3, Sum.inl (ec3, 4, Sum.inl ef3)), (dr4, Sum.inl (ec4, 4, Sum.inl ef4)), (fa, Sum.inr (3, [Value.ref cu, Value.ref rv, Value.ref bt, Value.int (nI bc), Value.int ho, Value.int fe])), (cu, Sum.inr (1, [Value.ref cu1, Value.ref cu2, Value.ref cu3, Value.ref cu4, Value.int sc, Value.int to])), (cu1, Sum.inl (cc1, 8, Sum.inl cf1)), (cu2, Sum.inl (cc2, 4, Sum.inl cf2)), (cu3, Sum.inl (cc3, 4, Sum.inl cf3)), (cu4, Sum.inl (cc4, 4, Sum.inl cf4)), (rv, Sum.inr (5, [Value.int (nI w), Value.int (nI h), Value.ref q1, Value.ref q2, Value.ref q3, Value.ref q4, Value.ref q5, Value.ref q6])), (q1, Sum.inl (cy1, 100, Sum.inl f1)), (q2, Sum.inl (cy2, 100, Sum.inl f2)), (q3, Sum.inl (cy3, 100, Sum.inl f3)), (q4, Sum.inl (cy4, 100, Sum.inl f4)), (q5, Sum.inl (cy5, 100, Sum.inl f5)), (q6, Sum.inl (cy6, 100, Sum.inl f6)), (bt, Sum.inl (bc9, 10, Sum.inr (Sum.inr (Sum.inr (Sum.inr (fun j => some (bo j))))))), (ly, Sum.inr (4, [Value.int lk, Value.ref ly1, Value.int wn, Value.ref ly2, Value.ref ly3, Value.ref ly4, Value.int on, Value.ref ly5, Value.int ab])), (ly1, Sum.inl (lc1, 10, Sum.inl l1)), (ly2, Sum.inl (lc2, 100, Sum.inl l2)), (ly3, Sum.inl (lc3, 100, Sum.inl l3)), (ly4, Sum.inl (lc4, 100, Sum.inl l4)), (ly5, Sum.inl (lc5, 10, Sum.inl l5)), (wy, Sum.inr (7, [Value.ref wy1, Value.ref wy2, Value.int qd, Value.ref wy3, Value.ref wy4, Value.int cr])), (wy1, Sum.inl (wc1, 100, Sum.inl s1)), (wy2, Sum.inl (wc2, 100, Sum.inl s2)), (wy3, Sum.inl (wc3, 40, Sum.inl s3)), (wy4, Sum.inl (wc4, 4, Sum.inl s4)), (mo, Sum.inr (9, [Value.ref m_tape, Value.int (nI lnm), Value.int s_thrown, Value.ref m_rule, Value.ref m_rules, Value.int (nI sn), Value.ref m_stair, Value.int s_readStairs, Value.int s_fault, Value.int s_faultPlace, Value.int (nI wm), Value.int (nI hm), Value.ref m_low, Value.ref m_high, Value.ref m_crack, Value.int (nI bcm), Value.ref m_weight, Value.ref m_fire, Value.ref m_crowd, Value.ref m_state, Value.ref m_where, Value.int s_hours, Value.int s_fees, Value.int s_looks, Value.ref m_words, Value.int s_end, Value.int s_next, Value.int s_kind, Value.int s_which, Value.int s_place, Value.int s_read, Value.ref m_told, Value.ref m_breaks, Value.ref m_row, Value.ref m_tried, Value.ref m_steps, Value.ref m_paths])), (m_tape, Sum.inl (y_tape, 400, Sum.inl f_tape)), (m_rule, Sum.inl (y_rule, 8, Sum.inl f_rule)), (m_rules, Sum.inl (y_rules, 8, Sum.inl f_rules)), (m_stair, Sum.inl (y_stair, 24, Sum.inl f_stair)), (m_low, Sum.inl (y_low, 100, Sum.inl f_low)), (m_high, Sum.inl (y_high, 100, Sum.inl f_high)), (m_crack, Sum.inl (y_crack, 100, Sum.inl f_crack)), (m_weight, Sum.inl (y_weight, 10, Sum.inl f_weight)), (m_fire, Sum.inl (y_fire, 10, Sum.inl f_fire)), (m_crowd, Sum.inl (y_crowd, 10, Sum.inl f_crowd)), (m_state, Sum.inl (y_state, 10, Sum.inl f_state)), (m_where, Sum.inl (y_where, 10, Sum.inl f_where)), (m_words, Sum.inl (y_words, 36, Sum.inl wF)), (m_told, Sum.inl (y_told, 7, Sum.inl f_told)), (m_breaks, Sum.inl (y_breaks, 100, Sum.inl f_breaks)), (m_row, Sum.inl (y_row, 10, Sum.inl f_row)), (m_tried, Sum.inl (y_tried, 10, Sum.inl f_tried)), (m_steps, Sum.inl (y_steps, 400, Sum.inl f_steps)), (m_paths, Sum.inl (y_paths, 40, Sum.inl f_paths)), (qo, Sum.inl (yo, 1, Sum.inr (Sum.inl fo)))] : va_W)) H → va_D A (bL bo B1 B2 B3 B4 B5 B6 B7 ++ ([(h0, Sum.inr (8, [Value.ref tp, Value.ref rd, Value.ref dr, Value.ref fa, Value.ref ly, Value.ref wy])), (tp, Sum.inr (6, [Value.ref tp1, Value.int (nI ln)])), (tp1, Sum.inl (tc, 400, Sum.inl tf)), (rd, Sum.inr (2, [Value.int fk, Value.int fp, Value.ref va, Value.ref tx, Value.int rl, Value.int nx, Value.int tk, Value.int sa, Value.int vl])), (va, Sum.inl (vc, 3, Sum.inl fv)), (dr, Sum.inr (1, [Value.ref dr1, Value.ref dr2, Value.ref dr3, Value.ref dr4, Value.int dsc, Value.int dto])), (dr1, Sum.inl (ec1, 8, Sum.inl ef1)), (dr2, Sum.inl (ec2, 4, Sum.inl ef2)), (dr3, Sum.inl (ec3, 4, Sum.inl ef3)), (dr4, Sum.inl (ec4, 4, Sum.inl ef4)), (fa, Sum.inr (3, [Value.ref cu, Value.ref rv, Value.ref bt, Value.int (nI bc), Value.int ho, Value.int fe])), (cu, Sum.inr (1, [Value.ref cu1, Value.ref cu2, Value.ref cu3, Value.ref cu4, Value.int sc, Value.int to])), (cu1, Sum.inl (cc1, 8, Sum.inl cf1)), (cu2, Sum.inl (cc2, 4, Sum.inl cf2)), (cu3, Sum.inl (cc3, 4, Sum.inl cf3)), (cu4, Sum.inl (cc4, 4, Sum.inl cf4)), (rv, Sum.inr (5, [Value.int (nI w), Value.int (nI h), Value.ref q1, Value.ref q2, Value.ref q3, Value.ref q4, Value.ref q5, Value.ref q6])), (q1, Sum.inl (cy1, 100, Sum.inl f1)), (q2, Sum.inl (cy2, 100, Sum.inl f2)), (q3, Sum.inl (cy3, 100, Sum.inl f3)), (q4, Sum.inl (cy4, 100, Sum.inl f4)), (q5, Sum.inl (cy5, 100, Sum.inl f5)), (q6, Sum.inl (cy6, 100, Sum.inl f6)), (bt, Sum.inl (bc9, 10, Sum.inr (Sum.inr (Sum.inr (Sum.inr (fun j => some (bo j))))))), (ly, Sum.inr (4, [Value.int lk, Value.ref ly1, Value.int wn, Value.ref ly2, Value.ref ly3, Value.ref ly4, Value.int on, Value.ref ly5, Value.int ab])), (ly1, Sum.inl (lc1, 10, Sum.inl l1)), (ly2, Sum.inl (lc2, 100, Sum.inl l2)), (ly3, Sum.inl (lc3, 100, Sum.inl l3)), (ly4, Sum.inl (lc4, 100, Sum.inl l4)), (ly5, Sum.inl (lc5, 10, Sum.inl l5)), (wy, Sum.inr (7, [Value.ref wy1, Value.ref wy2, Value.int qd, Value.ref wy3, Value.ref wy4, Value.int cr])), (wy1, Sum.inl (wc1, 100, Sum.inl s1)), (wy2, Sum.inl (wc2, 100, Sum.inl s2)), (wy3, Sum.inl (wc3, 40, Sum.inl s3)), (wy4, Sum.inl (wc4, 4, Sum.inl s4)), (mo, Sum.inr (9, [Value.ref m_tape, Value.int (nI lnm), Value.int s_thrown, Value.ref m_rule, Value.ref m_rules, Value.int (nI sn), Value.ref m_stair, Value.int s_readStairs, Value.int s_fault, Value.int s_faultPlace, Value.int (nI wm), Value.int (nI hm), Value.ref m_low, Value.ref m_high, Value.ref m_crack, Value.int (nI bcm), Value.ref m_weight, Value.ref m_fire, Value.ref m_crowd, Value.ref m_state, Value.ref m_where, Value.int s_hours, Value.int s_fees, Value.int s_looks, Value.ref m_words, Value.int s_end, Value.int s_next, Value.int s_kind, Value.int s_which, Value.int s_place, Value.int s_read, Value.ref m_told, Value.ref m_breaks, Value.ref m_row, Value.ref m_tried, Value.ref m_steps, Value.ref m_paths])), (m_tape, Sum.inl (y_tape, 400, Sum.inl f_tape)), (m_rule, Sum.inl (y_rule, 8, Sum.inl f_rule)), (m_rules, Sum.inl (y_rules, 8, Sum.inl f_rules)), (m_stair, Sum.inl (y_stair, 24, Sum.inl f_stair)), (m_low, Sum.inl (y_low, 100, Sum.inl f_low)), (m_high, Sum.inl (y_high, 100, Sum.inl f_high)), (m_crack, Sum.inl (y_crack, 100, Sum.inl f_crack)), (m_weight, Sum.inl (y_weight, 10, Sum.inl f_weight)), (m_fire, Sum.inl (y_fire, 10, Sum.inl f_fire)), (m_crowd, Sum.inl (y_crowd, 10, Sum.inl f_crowd)), (m_state, Sum.inl (y_state, 10, Sum.inl f_state)), (m_where, Sum.inl (y_where, 10, Sum.inl f_where)), (m_words, Sum.inl (y_words, 36, Sum.inl wF)), (m_told, Sum.inl (y_told, 7, Sum.inl f_told)), (m_breaks, Sum.inl (y_breaks, 100, Sum.inl f_breaks)), (m_row, Sum.inl (y_row, 10, Sum.inl f_row)), (m_tried, Sum.inl (y_tried, 10, Sum.inl f_tried)), (m_steps, Sum.inl (y_steps, 400, Sum.inl f_steps)), (m_paths, Sum.inl (y_paths, 40, Sum.inl f_paths)), (qo, Sum.inl (yo, 1, Sum.inr (Sum.inl fo)))] : va_W)) → va_S A s.heap H locs → ∀ ls : Array Slot, lv_has ls 7 [(0, Value.ref b), (1, Value.ref h0), (2, Value.ref mo), (3, Value.ref qo), (4, Value.int (nI (7 * t)))] → W p l e (room_1) s m args below meth c H locs (67 + t) (3176 + 6 * t) Q (F0 m 23 ls []) := by
  intro n
  induction n with
  | zero => intro ln tf lnm s_thrown f_tape fk fp tx rl nx tk sa vl fv dsc dto ef1 ef2 ef3 ef4 sc to cf1 cf2 cf3 cf4 sn s_readStairs s_fault s_faultPlace s_end s_next s_kind s_which s_place s_read f_stair f_rules f_told f_rule P bc ho fe w h f1 f2 f3 f4 f5 wm hm bcm s_hours s_fees f_low f_high f_crack B1 B2 B3 B4 B5 B6 B7 f_weight f_fire f_crowd f_state wt f_where wh f6 f_breaks lk wn on ab l1 l2 l3 l4 l5 s_looks f_row f_tried qd cr s1 s2 s3 s4 f_steps f_paths fo t i_ln i_bc i_w i_h i_sn hst i_lnm i_bcm i_wm i_hm i_tf i_fk i_fp i_lo i_hi i_ck i_we i_fi i_cr i_st i_ho i_fe i_CI i_wr i_Kc i_Km i_PB i_lb i_ou hL ht7 hn; exact absurd hn (Nat.not_lt_zero _)
  | succ n ih =>
    intro ln tf lnm s_thrown f_tape fk fp tx rl nx tk sa vl fv dsc dto ef1 ef2 ef3 ef4 sc to cf1 cf2 cf3 cf4 sn s_readStairs s_fault s_faultPlace s_end s_next s_kind s_which s_place s_read f_stair f_rules f_told f_rule P bc ho fe w h f1 f2 f3 f4 f5 wm hm bcm s_hours s_fees f_low f_high f_crack B1 B2 B3 B4 B5 B6 B7 f_weight f_fire f_crowd f_state wt f_where wh f6 f_breaks lk wn on ab l1 l2 l3 l4 l5 s_looks f_row f_tried qd cr s1 s2 s3 s4 f_steps f_paths fo t i_ln i_bc i_w i_h i_sn hst i_lnm i_bcm i_wm i_hm i_tf i_fk i_fp i_lo i_hi i_ck i_we i_fi i_cr i_st i_ho i_fe i_CI i_wr i_Kc i_Km i_PB i_lb i_ou hL ht7 hn H locs hP hD hS ls hl
    obtain ⟨hx, hb, hml, hown, hts⟩ := id F
    refine lv_iload hx hb dL_law_23 (lv_at hl 4 rfl) ?_
    refine lv_aload_n hx hb dL_law_25 rfl (lv_at hl 0 rfl) ?_
    refine va_slen hx hb hXs hbl hbA hS dL_law_26 ?_
    refine lv_topi (fun z_1 ez_1 => ?_)
    obtain rfl : z_1 = nI L := ez_1
    refine lv_bipush (v := 7) hx hb dL_law_27 (by decide) ?_
    refine lv_isub hx hb dL_law_29 ?_
    refine lv_topi (fun z_2 ez_2 => ?_)
    refine lv_icmp_gt (tgt := 689) hx hb dL_law_30 (by decide) (fun c_3 => ?_) (fun c_3 => ?_)
    · skip
      exact kx_689 t (by omega) H locs (hP.sub [] rfl) (hD.sub [] (by decide) rfl) hS ls (lv_sub hl [] rfl)
    · skip
      have hiq : 7 * t + 7 ≤ L := lw_len hL (by omega) (by rw [← ez_2]; exact c_3)
      refine lv_aload_n hx hb dL_law_33 rfl (lv_at hl 0 rfl) ?_
      refine lv_iload hx hb dL_law_34 (lv_at hl 4 rfl) ?_
      refine va_sld hx hb hXs hbl hbA hS (vp_in_nI (by omega) (by omega)) dL_law_36 ?_
      refine lv_topi (fun v_4 ev_4 => ?_)
      refine lv_bipush (v := 15) hx hb dL_law_37 (by decide) ?_
      refine lv_iand hx hb dL_law_39 ?_
      refine lv_topi (fun z_5 ez_5 => ?_)
      by_cases w_6_0 : z_5 = 0
      · skip
        subst w_6_0
        refine lv_tableIn (tgt := 116) hx hb dL_law_40 (by decide) (by decide) rfl (by decide) ?_
        have hl : lv_has ls 7 [(0, Value.ref b), (1, Value.ref h0), (2, Value.ref mo), (3, Value.ref qo), (4, Value.int (nI (7 * t)))] := hl
        refine lw_case_116 F hA bo B1 B2 B3 B4 B5 B6 B7 h0 tp rd dr fa ly wy tp1 ln tc tf fk fp va tx rl nx tk sa vl vc fv dr1 dr2 dr3 dr4 dsc dto ec1 ef1 ec2 ef2 ec3 ef3 ec4 ef4 cu rv bt bc ho fe cu1 cu2 cu3 cu4 sc to cc1 cf1 cc2 cf2 cc3 cf3 cc4 cf4 w h q1 q2 q3 q4 q5 q6 cy1 f1 cy2 f2 cy3 f3 cy4 f4 cy5 f5 cy6 f6 bc9 lk ly1 wn ly2 ly3 ly4 on ly5 ab lc1 l1 lc2 l2 lc3 l3 lc4 l4 lc5 l5 wy1 wy2 qd wy3 wy4 cr wc1 s1 wc2 s2 wc3 s3 wc4 s4 mo m_tape lnm s_thrown m_rule m_rules sn m_stair s_readStairs s_fault s_faultPlace wm hm m_low m_high m_crack bcm m_weight m_fire m_crowd m_state m_where s_hours s_fees s_looks m_words s_end s_next s_kind s_which s_place s_read m_told m_breaks m_row m_tried m_steps m_paths y_tape f_tape y_rule f_rule y_rules f_rules y_stair f_stair y_low f_low y_high f_high y_crack f_crack y_weight f_weight y_fire f_fire y_crowd f_crowd y_state f_state y_where f_where y_words y_told f_told y_breaks f_breaks y_row f_row y_tried f_tried y_steps f_steps y_paths f_paths qo yo fo (7 * t) (67 + t) (3176 + 6 * t) us e1 e2 e3 e4 en kk b L xs wt wh P (hK.sub [0, 1, 2, 3, 4, 5, 6, 7, 8, 9, 10, 11, 12, 13, 14, 15, 16, 17, 18, 19, 20, 21, 22, 23, 24, 25, 26, 27, 28, 29, 30, 31, 32, 33, 34, 35, 36, 37, 38, 39, 40, 41, 42, 43, 44, 45] rfl) hXC hXE hXs hbl hbA hlt (fun X_ln_7 X_tf_8 X_lnm_9 X_s_thrown_10 X_f_tape_11 h_12 h_13 h_14 h_15 h_16 h_17 h_18 h_19 h_20 h_21 h_22 h_23 h_24 h_25 h_26 h_27 h_28 h_29 h_30 h_31 h_32 h_33 h_34 h_35 h_36 h_37 h_38 h_39 h_40 H locs hP hD hS ls hl => ?_) _  (by omega) (by omega) (by omega) (by omega) (by omega) hst (by omega) (by omega) (by omega) (by omega) i_tf i_fk i_fp i_lo i_hi i_ck i_we i_fi i_cr i_st i_ho i_fe i_CI i_wr i_Kc i_Km i_PB i_lb i_ou (by omega) (by omega) (by omega) (by omega) (Nat.lt_succ_self _) _ _ (hP.sub [0, 1, 2, 3, 4, 5, 6, 7, 8, 9, 10, 11, 12, 13, 14, 15, 16, 17, 18, 19, 20, 21, 22, 23, 24, 25, 26, 27, 28, 29, 30, 31, 32, 33, 34, 35, 36, 37, 38, 39, 40, 41, 42, 43, 44, 45, 46, 47, 48, 49, 50, 51, 52, 53, 54, 55, 56, 57, 58, 59, 60, 61, 62, 63, 64, 65] rfl) (hD.sub [0, 1, 2, 3, 4, 5, 6, 7, 8, 9, 10, 11, 12, 13, 14, 15, 16, 17, 18, 19, 20, 21, 22, 23, 24, 25, 26, 27, 28, 29, 30, 31, 32, 33, 34, 35, 36, 37, 38, 39, 40, 41, 42, 43, 44, 45, 46, 47, 48, 49, 50, 51, 52, 53, 54, 55, 56, 57, 58, 59, 60, 61, 62, 63, 64, 65] (by decide) rfl) hS ls (lv_sub hl [0, 1, 2, 3, 4] rfl)
        have h_12 : X_ln_7 ≤ 400 := h_12
        have h_13 : bc ≤ 10 := h_13
        have h_14 : w ≤ 10 := h_14
        have h_15 : h ≤ 10 := h_15
        have h_16 : sn ≤ 4 := h_16
        have h_17 : rOK 100 f_stair 24 := h_17
        have h_18 : X_lnm_9 = X_ln_7 := h_18
        have h_19 : bcm = bc := h_19
        have h_20 : wm = w := h_20
        have h_21 : hm = h := h_21
        have h_22 : X_f_tape_11 = X_tf_8 := h_22
        have h_23 : s_fault = fk := h_23
        have h_24 : s_faultPlace = fp := h_24
        have h_25 : f_low = f1 := h_25
        have h_26 : f_high = f2 := h_26
        have h_27 : f_crack = f5 := h_27
        have h_28 : f_weight = B2 := h_28
        have h_29 : f_fire = B3 := h_29
        have h_30 : f_crowd = B4 := h_30
        have h_31 : f_state = B5 := h_31
        have h_32 : s_hours = ho := h_32
        have h_33 : s_fees = fe := h_33
        have h_34 : CI bc w h B1 B2 B5 B6 B7 f3 f4 wt wh := h_34
        have h_35 : ∀ b, b < bc → B5 b = 1 → f_where b = nI (wh b) := h_35
        have h_36 : Kc P cf1 cf2 cf3 cf4 sc := h_36
        have h_37 : Km P sn f_rule f_stair := h_37
        have h_38 : PB P := h_38
        have h_39 : ∀ c, c < 100 → 0 ≤ (f1 c).toInt ∧ (f1 c).toInt ≤ 99 := h_39
        have h_40 : ∀ c, ¬ (c % 10 < w ∧ c / 10 < h) → f5 c = 0 := h_40
        refine lv_iinc (v := nI (7 * t + 7)) (lv' := [(4, Value.int (nI (7 * t + 7))), (0, Value.ref b), (1, Value.ref h0), (2, Value.ref mo), (3, Value.ref qo)]) hx hb dL_law_683 hl (k := 4) rfl (nI_add (7 * t) 7) (by decide) rfl (fun ls hl => ?_)
        rw [show 7 * t + 7 = 7 * (t + 1) from rfl] at hl
        have hl : lv_has ls 7 [(4, Value.int (nI (7 * (t + 1)))), (0, Value.ref b), (1, Value.ref h0), (2, Value.ref mo), (3, Value.ref qo)] := hl
        refine lv_goto (tgt := 23) hx hb dL_law_686 (by decide) ?_
        refine W.widen (k := 67 + (t + 1)) (n := 3176 + 6 * (t + 1)) (by omega) (by omega) ?_
        exact ih X_ln_7 X_tf_8 X_lnm_9 X_s_thrown_10 X_f_tape_11 fk fp tx rl nx tk sa vl fv dsc dto ef1 ef2 ef3 ef4 sc to cf1 cf2 cf3 cf4 sn s_readStairs s_fault s_faultPlace s_end s_next s_kind s_which s_place s_read f_stair f_rules f_told f_rule P bc ho fe w h f1 f2 f3 f4 f5 wm hm bcm s_hours s_fees f_low f_high f_crack B1 B2 B3 B4 B5 B6 B7 f_weight f_fire f_crowd f_state wt f_where wh f6 f_breaks lk wn on ab l1 l2 l3 l4 l5 s_looks f_row f_tried qd cr s1 s2 s3 s4 f_steps f_paths fo (t + 1) (by omega) (by omega) (by omega) (by omega) (by omega) h_17 (by omega) (by omega) (by omega) (by omega) h_22 h_23 h_24 h_25 h_26 h_27 h_28 h_29 h_30 h_31 h_32 h_33 h_34 h_35 h_36 h_37 h_38 h_39 h_40 (by omega) (by omega) (by omega) H locs (hP.sub [0, 1, 2, 3, 4, 5, 6, 7, 8, 9, 10, 11, 12, 13, 14, 15, 16, 17, 18, 19, 20, 21, 22, 23, 24, 25, 26, 27, 28, 29, 30, 31, 32, 33, 34, 35, 36, 37, 38, 39, 40, 41, 42, 43, 44, 45, 46, 47, 48, 49, 50, 51, 52, 53, 54, 55, 56, 57, 58, 59, 60, 61, 62, 63, 64, 65] rfl) (hD.sub [0, 1, 2, 3, 4, 5, 6, 7, 8, 9, 10, 11, 12, 13, 14, 15, 16, 17, 18, 19, 20, 21, 22, 23, 24, 25, 26, 27, 28, 29, 30, 31, 32, 33, 34, 35, 36, 37, 38, 39, 40, 41, 42, 43, 44, 45, 46, 47, 48, 49, 50, 51, 52, 53, 54, 55, 56, 57, 58, 59, 60, 61, 62, 63, 64, 65] (by decide) rfl) hS ls (lv_sub hl [1, 2, 3, 4, 0] rfl)
      by_cases w_6_1 : z_5 = 1
      · skip
        subst w_6_1
        refine lv_tableIn (tgt := 189) hx hb dL_law_40 (by decide) (by decide) rfl (by decide) ?_
        have hl : lv_has ls 7 [(0, Value.ref b), (1, Value.ref h0), (2, Value.ref mo), (3, Value.ref qo), (4, Value.int (nI (7 * t)))] := hl
        refine lw_case_189 F hA bo B1 B2 B3 B4 B5 B6 B7 h0 tp rd dr fa ly wy tp1 ln tc tf fk fp va tx rl nx tk sa vl vc fv dr1 dr2 dr3 dr4 dsc dto ec1 ef1 ec2 ef2 ec3 ef3 ec4 ef4 cu rv bt bc ho fe cu1 cu2 cu3 cu4 sc to cc1 cf1 cc2 cf2 cc3 cf3 cc4 cf4 w h q1 q2 q3 q4 q5 q6 cy1 f1 cy2 f2 cy3 f3 cy4 f4 cy5 f5 cy6 f6 bc9 lk ly1 wn ly2 ly3 ly4 on ly5 ab lc1 l1 lc2 l2 lc3 l3 lc4 l4 lc5 l5 wy1 wy2 qd wy3 wy4 cr wc1 s1 wc2 s2 wc3 s3 wc4 s4 mo m_tape lnm s_thrown m_rule m_rules sn m_stair s_readStairs s_fault s_faultPlace wm hm m_low m_high m_crack bcm m_weight m_fire m_crowd m_state m_where s_hours s_fees s_looks m_words s_end s_next s_kind s_which s_place s_read m_told m_breaks m_row m_tried m_steps m_paths y_tape f_tape y_rule f_rule y_rules f_rules y_stair f_stair y_low f_low y_high f_high y_crack f_crack y_weight f_weight y_fire f_fire y_crowd f_crowd y_state f_state y_where f_where y_words y_told f_told y_breaks f_breaks y_row f_row y_tried f_tried y_steps f_steps y_paths f_paths qo yo fo (7 * t) (67 + t) (3176 + 6 * t) us e1 e2 e3 e4 en kk b L xs wt wh P (hK.sub [0, 1, 2, 3, 4, 5, 6, 7, 8, 9, 10, 11, 12, 13, 14, 15, 16, 17, 18, 19, 20, 21, 22, 23, 24, 25, 26, 27, 28, 29, 30, 31, 32, 33, 34, 35, 36, 37, 38, 39, 40, 41, 42, 43, 44, 45] rfl) hXC hXE hXs hbl hbA hlt (fun X_ln_41 X_fk_42 X_fp_43 X_tx_44 X_rl_45 X_nx_46 X_tk_47 X_sa_48 X_vl_49 X_fv_50 X_dsc_51 X_dto_52 X_ef1_53 X_ef2_54 X_ef3_55 X_ef4_56 X_sc_57 X_to_58 X_cf1_59 X_cf2_60 X_cf3_61 X_cf4_62 X_lnm_63 X_s_thrown_64 X_sn_65 X_s_readStairs_66 X_s_fault_67 X_s_faultPlace_68 X_s_end_69 X_s_next_70 X_s_kind_71 X_s_which_72 X_s_place_73 X_s_read_74 X_f_stair_75 X_f_rules_76 X_f_told_77 X_f_rule_78 X_P_79 h_80 h_81 h_82 h_83 h_84 h_85 h_86 h_87 h_88 h_89 h_90 h_91 h_92 h_93 h_94 h_95 h_96 h_97 h_98 h_99 h_100 h_101 h_102 h_103 h_104 h_105 h_106 h_107 h_108 H locs hP hD hS ls hl => ?_) _  (by omega) (by omega) (by omega) (by omega) (by omega) hst (by omega) (by omega) (by omega) (by omega) i_tf i_fk i_fp i_lo i_hi i_ck i_we i_fi i_cr i_st i_ho i_fe i_CI i_wr i_Kc i_Km i_PB i_lb i_ou (by omega) (by omega) (by omega) (by omega) (Nat.lt_succ_self _) _ _ (hP.sub [0, 1, 2, 3, 4, 5, 6, 7, 8, 9, 10, 11, 12, 13, 14, 15, 16, 17, 18, 19, 20, 21, 22, 23, 24, 25, 26, 27, 28, 29, 30, 31, 32, 33, 34, 35, 36, 37, 38, 39, 40, 41, 42, 43, 44, 45, 46, 47, 48, 49, 50, 51, 52, 53, 54, 55, 56, 57, 58, 59, 60, 61, 62, 63, 64, 65] rfl) (hD.sub [0, 1, 2, 3, 4, 5, 6, 7, 8, 9, 10, 11, 12, 13, 14, 15, 16, 17, 18, 19, 20, 21, 22, 23, 24, 25, 26, 27, 28, 29, 30, 31, 32, 33, 34, 35, 36, 37, 38, 39, 40, 41, 42, 43, 44, 45, 46, 47, 48, 49, 50, 51, 52, 53, 54, 55, 56, 57, 58, 59, 60, 61, 62, 63, 64, 65] (by decide) rfl) hS ls (lv_sub hl [0, 1, 2, 3, 4] rfl)
        have h_80 : X_ln_41 ≤ 400 := h_80
        have h_81 : bc ≤ 10 := h_81
        have h_82 : w ≤ 10 := h_82
        have h_83 : h ≤ 10 := h_83
        have h_84 : X_sn_65 ≤ 4 := h_84
        have h_85 : rOK 100 X_f_stair_75 24 := h_85
        have h_86 : X_lnm_63 = X_ln_41 := h_86
        have h_87 : bcm = bc := h_87
        have h_88 : wm = w := h_88
        have h_89 : hm = h := h_89
        have h_90 : f_tape = tf := h_90
        have h_91 : X_s_fault_67 = X_fk_42 := h_91
        have h_92 : X_s_faultPlace_68 = X_fp_43 := h_92
        have h_93 : f_low = f1 := h_93
        have h_94 : f_high = f2 := h_94
        have h_95 : f_crack = f5 := h_95
        have h_96 : f_weight = B2 := h_96
        have h_97 : f_fire = B3 := h_97
        have h_98 : f_crowd = B4 := h_98
        have h_99 : f_state = B5 := h_99
        have h_100 : s_hours = ho := h_100
        have h_101 : s_fees = fe := h_101
        have h_102 : CI bc w h B1 B2 B5 B6 B7 f3 f4 wt wh := h_102
        have h_103 : ∀ b, b < bc → B5 b = 1 → f_where b = nI (wh b) := h_103
        have h_104 : Kc X_P_79 X_cf1_59 X_cf2_60 X_cf3_61 X_cf4_62 X_sc_57 := h_104
        have h_105 : Km X_P_79 X_sn_65 X_f_rule_78 X_f_stair_75 := h_105
        have h_106 : PB X_P_79 := h_106
        have h_107 : ∀ c, c < 100 → 0 ≤ (f1 c).toInt ∧ (f1 c).toInt ≤ 99 := h_107
        have h_108 : ∀ c, ¬ (c % 10 < w ∧ c / 10 < h) → f5 c = 0 := h_108
        refine lv_iinc (v := nI (7 * t + 7)) (lv' := [(4, Value.int (nI (7 * t + 7))), (0, Value.ref b), (1, Value.ref h0), (2, Value.ref mo), (3, Value.ref qo)]) hx hb dL_law_683 hl (k := 4) rfl (nI_add (7 * t) 7) (by decide) rfl (fun ls hl => ?_)
        rw [show 7 * t + 7 = 7 * (t + 1) from rfl] at hl
        have hl : lv_has ls 7 [(4, Value.int (nI (7 * (t + 1)))), (0, Value.ref b), (1, Value.ref h0), (2, Value.ref mo), (3, Value.ref qo)] := hl
        refine lv_goto (tgt := 23) hx hb dL_law_686 (by decide) ?_
        refine W.widen (k := 67 + (t + 1)) (n := 3176 + 6 * (t + 1)) (by omega) (by omega) ?_
        exact ih X_ln_41 tf X_lnm_63 X_s_thrown_64 f_tape X_fk_42 X_fp_43 X_tx_44 X_rl_45 X_nx_46 X_tk_47 X_sa_48 X_vl_49 X_fv_50 X_dsc_51 X_dto_52 X_ef1_53 X_ef2_54 X_ef3_55 X_ef4_56 X_sc_57 X_to_58 X_cf1_59 X_cf2_60 X_cf3_61 X_cf4_62 X_sn_65 X_s_readStairs_66 X_s_fault_67 X_s_faultPlace_68 X_s_end_69 X_s_next_70 X_s_kind_71 X_s_which_72 X_s_place_73 X_s_read_74 X_f_stair_75 X_f_rules_76 X_f_told_77 X_f_rule_78 X_P_79 bc ho fe w h f1 f2 f3 f4 f5 wm hm bcm s_hours s_fees f_low f_high f_crack B1 B2 B3 B4 B5 B6 B7 f_weight f_fire f_crowd f_state wt f_where wh f6 f_breaks lk wn on ab l1 l2 l3 l4 l5 s_looks f_row f_tried qd cr s1 s2 s3 s4 f_steps f_paths fo (t + 1) (by omega) (by omega) (by omega) (by omega) (by omega) h_85 (by omega) (by omega) (by omega) (by omega) h_90 h_91 h_92 h_93 h_94 h_95 h_96 h_97 h_98 h_99 h_100 h_101 h_102 h_103 h_104 h_105 h_106 h_107 h_108 (by omega) (by omega) (by omega) H locs (hP.sub [0, 1, 2, 3, 4, 5, 6, 7, 8, 9, 10, 11, 12, 13, 14, 15, 16, 17, 18, 19, 20, 21, 22, 23, 24, 25, 26, 27, 28, 29, 30, 31, 32, 33, 34, 35, 36, 37, 38, 39, 40, 41, 42, 43, 44, 45, 46, 47, 48, 49, 50, 51, 52, 53, 54, 55, 56, 57, 58, 59, 60, 61, 62, 63, 64, 65] rfl) (hD.sub [0, 1, 2, 3, 4, 5, 6, 7, 8, 9, 10, 11, 12, 13, 14, 15, 16, 17, 18, 19, 20, 21, 22, 23, 24, 25, 26, 27, 28, 29, 30, 31, 32, 33, 34, 35, 36, 37, 38, 39, 40, 41, 42, 43, 44, 45, 46, 47, 48, 49, 50, 51, 52, 53, 54, 55, 56, 57, 58, 59, 60, 61, 62, 63, 64, 65] (by decide) rfl) hS ls (lv_sub hl [1, 2, 3, 4, 0] rfl)
      by_cases w_6_2 : z_5 = 2
      · skip
        subst w_6_2
        refine lv_tableIn (tgt := 214) hx hb dL_law_40 (by decide) (by decide) rfl (by decide) ?_
        have hl : lv_has ls 7 [(0, Value.ref b), (1, Value.ref h0), (2, Value.ref mo), (3, Value.ref qo), (4, Value.int (nI (7 * t)))] := hl
        refine lw_case_214 F hA bo B1 B2 B3 B4 B5 B6 B7 h0 tp rd dr fa ly wy tp1 ln tc tf fk fp va tx rl nx tk sa vl vc fv dr1 dr2 dr3 dr4 dsc dto ec1 ef1 ec2 ef2 ec3 ef3 ec4 ef4 cu rv bt bc ho fe cu1 cu2 cu3 cu4 sc to cc1 cf1 cc2 cf2 cc3 cf3 cc4 cf4 w h q1 q2 q3 q4 q5 q6 cy1 f1 cy2 f2 cy3 f3 cy4 f4 cy5 f5 cy6 f6 bc9 lk ly1 wn ly2 ly3 ly4 on ly5 ab lc1 l1 lc2 l2 lc3 l3 lc4 l4 lc5 l5 wy1 wy2 qd wy3 wy4 cr wc1 s1 wc2 s2 wc3 s3 wc4 s4 mo m_tape lnm s_thrown m_rule m_rules sn m_stair s_readStairs s_fault s_faultPlace wm hm m_low m_high m_crack bcm m_weight m_fire m_crowd m_state m_where s_hours s_fees s_looks m_words s_end s_next s_kind s_which s_place s_read m_told m_breaks m_row m_tried m_steps m_paths y_tape f_tape y_rule f_rule y_rules f_rules y_stair f_stair y_low f_low y_high f_high y_crack f_crack y_weight f_weight y_fire f_fire y_crowd f_crowd y_state f_state y_where f_where y_words y_told f_told y_breaks f_breaks y_row f_row y_tried f_tried y_steps f_steps y_paths f_paths qo yo fo (7 * t) (67 + t) (3176 + 6 * t) us e1 e2 e3 e4 en kk b L xs wt wh P (hK.sub [0, 1, 2, 3, 4, 5, 6, 7, 8, 9, 10, 11, 12, 13, 14, 15, 16, 17, 18, 19, 20, 21, 22, 23, 24, 25, 26, 27, 28, 29, 30, 31, 32, 33, 34, 35, 36, 37, 38, 39, 40, 41, 42, 43, 44, 45] rfl) hXC hXE hXs hbl hbA hlt (fun X_s_thrown_109 h_110 h_111 h_112 h_113 h_114 h_115 h_116 h_117 h_118 h_119 h_120 h_121 h_122 h_123 h_124 h_125 h_126 h_127 h_128 h_129 h_130 h_131 h_132 h_133 h_134 h_135 h_136 h_137 h_138 H locs hP hD hS ls hl => ?_) _  (by omega) (by omega) (by omega) (by omega) (by omega) hst (by omega) (by omega) (by omega) (by omega) i_tf i_fk i_fp i_lo i_hi i_ck i_we i_fi i_cr i_st i_ho i_fe i_CI i_wr i_Kc i_Km i_PB i_lb i_ou (by omega) (by omega) (by omega) (by omega) (Nat.lt_succ_self _) _ _ (hP.sub [0, 1, 2, 3, 4, 5, 6, 7, 8, 9, 10, 11, 12, 13, 14, 15, 16, 17, 18, 19, 20, 21, 22, 23, 24, 25, 26, 27, 28, 29, 30, 31, 32, 33, 34, 35, 36, 37, 38, 39, 40, 41, 42, 43, 44, 45, 46, 47, 48, 49, 50, 51, 52, 53, 54, 55, 56, 57, 58, 59, 60, 61, 62, 63, 64, 65] rfl) (hD.sub [0, 1, 2, 3, 4, 5, 6, 7, 8, 9, 10, 11, 12, 13, 14, 15, 16, 17, 18, 19, 20, 21, 22, 23, 24, 25, 26, 27, 28, 29, 30, 31, 32, 33, 34, 35, 36, 37, 38, 39, 40, 41, 42, 43, 44, 45, 46, 47, 48, 49, 50, 51, 52, 53, 54, 55, 56, 57, 58, 59, 60, 61, 62, 63, 64, 65] (by decide) rfl) hS ls (lv_sub hl [0, 1, 2, 3, 4] rfl)
        have h_110 : ln ≤ 400 := h_110
        have h_111 : bc ≤ 10 := h_111
        have h_112 : w ≤ 10 := h_112
        have h_113 : h ≤ 10 := h_113
        have h_114 : sn ≤ 4 := h_114
        have h_115 : rOK 100 f_stair 24 := h_115
        have h_116 : lnm = ln := h_116
        have h_117 : bcm = bc := h_117
        have h_118 : wm = w := h_118
        have h_119 : hm = h := h_119
        have h_120 : f_tape = tf := h_120
        have h_121 : s_fault = fk := h_121
        have h_122 : s_faultPlace = fp := h_122
        have h_123 : f_low = f1 := h_123
        have h_124 : f_high = f2 := h_124
        have h_125 : f_crack = f5 := h_125
        have h_126 : f_weight = B2 := h_126
        have h_127 : f_fire = B3 := h_127
        have h_128 : f_crowd = B4 := h_128
        have h_129 : f_state = B5 := h_129
        have h_130 : s_hours = ho := h_130
        have h_131 : s_fees = fe := h_131
        have h_132 : CI bc w h B1 B2 B5 B6 B7 f3 f4 wt wh := h_132
        have h_133 : ∀ b, b < bc → B5 b = 1 → f_where b = nI (wh b) := h_133
        have h_134 : Kc P cf1 cf2 cf3 cf4 sc := h_134
        have h_135 : Km P sn f_rule f_stair := h_135
        have h_136 : PB P := h_136
        have h_137 : ∀ c, c < 100 → 0 ≤ (f1 c).toInt ∧ (f1 c).toInt ≤ 99 := h_137
        have h_138 : ∀ c, ¬ (c % 10 < w ∧ c / 10 < h) → f5 c = 0 := h_138
        refine lv_iinc (v := nI (7 * t + 7)) (lv' := [(4, Value.int (nI (7 * t + 7))), (0, Value.ref b), (1, Value.ref h0), (2, Value.ref mo), (3, Value.ref qo)]) hx hb dL_law_683 hl (k := 4) rfl (nI_add (7 * t) 7) (by decide) rfl (fun ls hl => ?_)
        rw [show 7 * t + 7 = 7 * (t + 1) from rfl] at hl
        have hl : lv_has ls 7 [(4, Value.int (nI (7 * (t + 1)))), (0, Value.ref b), (1, Value.ref h0), (2, Value.ref mo), (3, Value.ref qo)] := hl
        refine lv_goto (tgt := 23) hx hb dL_law_686 (by decide) ?_
        refine W.widen (k := 67 + (t + 1)) (n := 3176 + 6 * (t + 1)) (by omega) (by omega) ?_
        exact ih ln tf lnm X_s_thrown_109 f_tape fk fp tx rl nx tk sa vl fv dsc dto ef1 ef2 ef3 ef4 sc to cf1 cf2 cf3 cf4 sn s_readStairs s_fault s_faultPlace s_end s_next s_kind s_which s_place s_read f_stair f_rules f_told f_rule P bc ho fe w h f1 f2 f3 f4 f5 wm hm bcm s_hours s_fees f_low f_high f_crack B1 B2 B3 B4 B5 B6 B7 f_weight f_fire f_crowd f_state wt f_where wh f6 f_breaks lk wn on ab l1 l2 l3 l4 l5 s_looks f_row f_tried qd cr s1 s2 s3 s4 f_steps f_paths fo (t + 1) (by omega) (by omega) (by omega) (by omega) (by omega) h_115 (by omega) (by omega) (by omega) (by omega) h_120 h_121 h_122 h_123 h_124 h_125 h_126 h_127 h_128 h_129 h_130 h_131 h_132 h_133 h_134 h_135 h_136 h_137 h_138 (by omega) (by omega) (by omega) H locs (hP.sub [0, 1, 2, 3, 4, 5, 6, 7, 8, 9, 10, 11, 12, 13, 14, 15, 16, 17, 18, 19, 20, 21, 22, 23, 24, 25, 26, 27, 28, 29, 30, 31, 32, 33, 34, 35, 36, 37, 38, 39, 40, 41, 42, 43, 44, 45, 46, 47, 48, 49, 50, 51, 52, 53, 54, 55, 56, 57, 58, 59, 60, 61, 62, 63, 64, 65] rfl) (hD.sub [0, 1, 2, 3, 4, 5, 6, 7, 8, 9, 10, 11, 12, 13, 14, 15, 16, 17, 18, 19, 20, 21, 22, 23, 24, 25, 26, 27, 28, 29, 30, 31, 32, 33, 34, 35, 36, 37, 38, 39, 40, 41, 42, 43, 44, 45, 46, 47, 48, 49, 50, 51, 52, 53, 54, 55, 56, 57, 58, 59, 60, 61, 62, 63, 64, 65] (by decide) rfl) hS ls (lv_sub hl [1, 2, 3, 4, 0] rfl)
      by_cases w_6_3 : z_5 = 3
      · skip
        subst w_6_3
        refine lv_tableIn (tgt := 239) hx hb dL_law_40 (by decide) (by decide) rfl (by decide) ?_
        have hl : lv_has ls 7 [(0, Value.ref b), (1, Value.ref h0), (2, Value.ref mo), (3, Value.ref qo), (4, Value.int (nI (7 * t)))] := hl
        refine lw_case_239 F hA bo B1 B2 B3 B4 B5 B6 B7 h0 tp rd dr fa ly wy tp1 ln tc tf fk fp va tx rl nx tk sa vl vc fv dr1 dr2 dr3 dr4 dsc dto ec1 ef1 ec2 ef2 ec3 ef3 ec4 ef4 cu rv bt bc ho fe cu1 cu2 cu3 cu4 sc to cc1 cf1 cc2 cf2 cc3 cf3 cc4 cf4 w h q1 q2 q3 q4 q5 q6 cy1 f1 cy2 f2 cy3 f3 cy4 f4 cy5 f5 cy6 f6 bc9 lk ly1 wn ly2 ly3 ly4 on ly5 ab lc1 l1 lc2 l2 lc3 l3 lc4 l4 lc5 l5 wy1 wy2 qd wy3 wy4 cr wc1 s1 wc2 s2 wc3 s3 wc4 s4 mo m_tape lnm s_thrown m_rule m_rules sn m_stair s_readStairs s_fault s_faultPlace wm hm m_low m_high m_crack bcm m_weight m_fire m_crowd m_state m_where s_hours s_fees s_looks m_words s_end s_next s_kind s_which s_place s_read m_told m_breaks m_row m_tried m_steps m_paths y_tape f_tape y_rule f_rule y_rules f_rules y_stair f_stair y_low f_low y_high f_high y_crack f_crack y_weight f_weight y_fire f_fire y_crowd f_crowd y_state f_state y_where f_where y_words y_told f_told y_breaks f_breaks y_row f_row y_tried f_tried y_steps f_steps y_paths f_paths qo yo fo (7 * t) (67 + t) (3176 + 6 * t) us e1 e2 e3 e4 en kk b L xs wt wh P (hK.sub [0, 1, 2, 3, 4, 5, 6, 7, 8, 9, 10, 11, 12, 13, 14, 15, 16, 17, 18, 19, 20, 21, 22, 23, 24, 25, 26, 27, 28, 29, 30, 31, 32, 33, 34, 35, 36, 37, 38, 39, 40, 41, 42, 43, 44, 45] rfl) hXC hXE hXs hbl hbA hlt (fun X_bc_139 X_ho_140 X_fe_141 X_w_142 X_h_143 X_f1_144 X_f2_145 X_f3_146 X_f4_147 X_f5_148 X_s_thrown_149 X_wm_150 X_hm_151 X_bcm_152 X_s_hours_153 X_s_fees_154 X_f_low_155 X_f_high_156 X_f_crack_157 h_158 h_159 h_160 h_161 h_162 h_163 h_164 h_165 h_166 h_167 h_168 h_169 h_170 h_171 h_172 h_173 h_174 h_175 h_176 h_177 h_178 h_179 h_180 h_181 h_182 h_183 h_184 h_185 h_186 H locs hP hD hS ls hl => ?_) _  (by omega) (by omega) (by omega) (by omega) (by omega) hst (by omega) (by omega) (by omega) (by omega) i_tf i_fk i_fp i_lo i_hi i_ck i_we i_fi i_cr i_st i_ho i_fe i_CI i_wr i_Kc i_Km i_PB i_lb i_ou (by omega) (by omega) (by omega) (by omega) (Nat.lt_succ_self _) _ _ (hP.sub [0, 1, 2, 3, 4, 5, 6, 7, 8, 9, 10, 11, 12, 13, 14, 15, 16, 17, 18, 19, 20, 21, 22, 23, 24, 25, 26, 27, 28, 29, 30, 31, 32, 33, 34, 35, 36, 37, 38, 39, 40, 41, 42, 43, 44, 45, 46, 47, 48, 49, 50, 51, 52, 53, 54, 55, 56, 57, 58, 59, 60, 61, 62, 63, 64, 65] rfl) (hD.sub [0, 1, 2, 3, 4, 5, 6, 7, 8, 9, 10, 11, 12, 13, 14, 15, 16, 17, 18, 19, 20, 21, 22, 23, 24, 25, 26, 27, 28, 29, 30, 31, 32, 33, 34, 35, 36, 37, 38, 39, 40, 41, 42, 43, 44, 45, 46, 47, 48, 49, 50, 51, 52, 53, 54, 55, 56, 57, 58, 59, 60, 61, 62, 63, 64, 65] (by decide) rfl) hS ls (lv_sub hl [0, 1, 2, 3, 4] rfl)
        have h_158 : ln ≤ 400 := h_158
        have h_159 : X_bc_139 ≤ 10 := h_159
        have h_160 : X_w_142 ≤ 10 := h_160
        have h_161 : X_h_143 ≤ 10 := h_161
        have h_162 : sn ≤ 4 := h_162
        have h_163 : rOK 100 f_stair 24 := h_163
        have h_164 : lnm = ln := h_164
        have h_165 : X_bcm_152 = X_bc_139 := h_165
        have h_166 : X_wm_150 = X_w_142 := h_166
        have h_167 : X_hm_151 = X_h_143 := h_167
        have h_168 : f_tape = tf := h_168
        have h_169 : s_fault = fk := h_169
        have h_170 : s_faultPlace = fp := h_170
        have h_171 : X_f_low_155 = X_f1_144 := h_171
        have h_172 : X_f_high_156 = X_f2_145 := h_172
        have h_173 : X_f_crack_157 = X_f5_148 := h_173
        have h_174 : f_weight = B2 := h_174
        have h_175 : f_fire = B3 := h_175
        have h_176 : f_crowd = B4 := h_176
        have h_177 : f_state = B5 := h_177
        have h_178 : X_s_hours_153 = X_ho_140 := h_178
        have h_179 : X_s_fees_154 = X_fe_141 := h_179
        have h_180 : CI X_bc_139 X_w_142 X_h_143 B1 B2 B5 B6 B7 X_f3_146 X_f4_147 wt wh := h_180
        have h_181 : ∀ b, b < X_bc_139 → B5 b = 1 → f_where b = nI (wh b) := h_181
        have h_182 : Kc P cf1 cf2 cf3 cf4 sc := h_182
        have h_183 : Km P sn f_rule f_stair := h_183
        have h_184 : PB P := h_184
        have h_185 : ∀ c, c < 100 → 0 ≤ (X_f1_144 c).toInt ∧ (X_f1_144 c).toInt ≤ 99 := h_185
        have h_186 : ∀ c, ¬ (c % 10 < X_w_142 ∧ c / 10 < X_h_143) → X_f5_148 c = 0 := h_186
        refine lv_iinc (v := nI (7 * t + 7)) (lv' := [(4, Value.int (nI (7 * t + 7))), (0, Value.ref b), (1, Value.ref h0), (2, Value.ref mo), (3, Value.ref qo)]) hx hb dL_law_683 hl (k := 4) rfl (nI_add (7 * t) 7) (by decide) rfl (fun ls hl => ?_)
        rw [show 7 * t + 7 = 7 * (t + 1) from rfl] at hl
        have hl : lv_has ls 7 [(4, Value.int (nI (7 * (t + 1)))), (0, Value.ref b), (1, Value.ref h0), (2, Value.ref mo), (3, Value.ref qo)] := hl
        refine lv_goto (tgt := 23) hx hb dL_law_686 (by decide) ?_
        refine W.widen (k := 67 + (t + 1)) (n := 3176 + 6 * (t + 1)) (by omega) (by omega) ?_
        exact ih ln tf lnm X_s_thrown_149 f_tape fk fp tx rl nx tk sa vl fv dsc dto ef1 ef2 ef3 ef4 sc to cf1 cf2 cf3 cf4 sn s_readStairs s_fault s_faultPlace s_end s_next s_kind s_which s_place s_read f_stair f_rules f_told f_rule P X_bc_139 X_ho_140 X_fe_141 X_w_142 X_h_143 X_f1_144 X_f2_145 X_f3_146 X_f4_147 X_f5_148 X_wm_150 X_hm_151 X_bcm_152 X_s_hours_153 X_s_fees_154 X_f_low_155 X_f_high_156 X_f_crack_157 B1 B2 B3 B4 B5 B6 B7 f_weight f_fire f_crowd f_state wt f_where wh f6 f_breaks lk wn on ab l1 l2 l3 l4 l5 s_looks f_row f_tried qd cr s1 s2 s3 s4 f_steps f_paths fo (t + 1) (by omega) (by omega) (by omega) (by omega) (by omega) h_163 (by omega) (by omega) (by omega) (by omega) h_168 h_169 h_170 h_171 h_172 h_173 h_174 h_175 h_176 h_177 h_178 h_179 h_180 h_181 h_182 h_183 h_184 h_185 h_186 (by omega) (by omega) (by omega) H locs (hP.sub [0, 1, 2, 3, 4, 5, 6, 7, 8, 9, 10, 11, 12, 13, 14, 15, 16, 17, 18, 19, 20, 21, 22, 23, 24, 25, 26, 27, 28, 29, 30, 31, 32, 33, 34, 35, 36, 37, 38, 39, 40, 41, 42, 43, 44, 45, 46, 47, 48, 49, 50, 51, 52, 53, 54, 55, 56, 57, 58, 59, 60, 61, 62, 63, 64, 65] rfl) (hD.sub [0, 1, 2, 3, 4, 5, 6, 7, 8, 9, 10, 11, 12, 13, 14, 15, 16, 17, 18, 19, 20, 21, 22, 23, 24, 25, 26, 27, 28, 29, 30, 31, 32, 33, 34, 35, 36, 37, 38, 39, 40, 41, 42, 43, 44, 45, 46, 47, 48, 49, 50, 51, 52, 53, 54, 55, 56, 57, 58, 59, 60, 61, 62, 63, 64, 65] (by decide) rfl) hS ls (lv_sub hl [1, 2, 3, 4, 0] rfl)
      by_cases w_6_4 : z_5 = 4
      · skip
        subst w_6_4
        refine lv_tableIn (tgt := 276) hx hb dL_law_40 (by decide) (by decide) rfl (by decide) ?_
        have hl : lv_has ls 7 [(0, Value.ref b), (1, Value.ref h0), (2, Value.ref mo), (3, Value.ref qo), (4, Value.int (nI (7 * t)))] := hl
        refine lw_case_276 F hA bo B1 B2 B3 B4 B5 B6 B7 h0 tp rd dr fa ly wy tp1 ln tc tf fk fp va tx rl nx tk sa vl vc fv dr1 dr2 dr3 dr4 dsc dto ec1 ef1 ec2 ef2 ec3 ef3 ec4 ef4 cu rv bt bc ho fe cu1 cu2 cu3 cu4 sc to cc1 cf1 cc2 cf2 cc3 cf3 cc4 cf4 w h q1 q2 q3 q4 q5 q6 cy1 f1 cy2 f2 cy3 f3 cy4 f4 cy5 f5 cy6 f6 bc9 lk ly1 wn ly2 ly3 ly4 on ly5 ab lc1 l1 lc2 l2 lc3 l3 lc4 l4 lc5 l5 wy1 wy2 qd wy3 wy4 cr wc1 s1 wc2 s2 wc3 s3 wc4 s4 mo m_tape lnm s_thrown m_rule m_rules sn m_stair s_readStairs s_fault s_faultPlace wm hm m_low m_high m_crack bcm m_weight m_fire m_crowd m_state m_where s_hours s_fees s_looks m_words s_end s_next s_kind s_which s_place s_read m_told m_breaks m_row m_tried m_steps m_paths y_tape f_tape y_rule f_rule y_rules f_rules y_stair f_stair y_low f_low y_high f_high y_crack f_crack y_weight f_weight y_fire f_fire y_crowd f_crowd y_state f_state y_where f_where y_words y_told f_told y_breaks f_breaks y_row f_row y_tried f_tried y_steps f_steps y_paths f_paths qo yo fo (7 * t) (67 + t) (3176 + 6 * t) us e1 e2 e3 e4 en kk b L xs wt wh P (hK.sub [0, 1, 2, 3, 4, 5, 6, 7, 8, 9, 10, 11, 12, 13, 14, 15, 16, 17, 18, 19, 20, 21, 22, 23, 24, 25, 26, 27, 28, 29, 30, 31, 32, 33, 34, 35, 36, 37, 38, 39, 40, 41, 42, 43, 44, 45] rfl) hXC hXE hXs hbl hbA hlt (fun X_f1_187 X_f2_188 X_s_thrown_189 X_f_low_190 X_f_high_191 h_192 h_193 h_194 h_195 h_196 h_197 h_198 h_199 h_200 h_201 h_202 h_203 h_204 h_205 h_206 h_207 h_208 h_209 h_210 h_211 h_212 h_213 h_214 h_215 h_216 h_217 h_218 h_219 h_220 H locs hP hD hS ls hl => ?_) _  (by omega) (by omega) (by omega) (by omega) (by omega) hst (by omega) (by omega) (by omega) (by omega) i_tf i_fk i_fp i_lo i_hi i_ck i_we i_fi i_cr i_st i_ho i_fe i_CI i_wr i_Kc i_Km i_PB i_lb i_ou (by omega) (by omega) (by omega) (by omega) (Nat.lt_succ_self _) _ _ (hP.sub [0, 1, 2, 3, 4, 5, 6, 7, 8, 9, 10, 11, 12, 13, 14, 15, 16, 17, 18, 19, 20, 21, 22, 23, 24, 25, 26, 27, 28, 29, 30, 31, 32, 33, 34, 35, 36, 37, 38, 39, 40, 41, 42, 43, 44, 45, 46, 47, 48, 49, 50, 51, 52, 53, 54, 55, 56, 57, 58, 59, 60, 61, 62, 63, 64, 65] rfl) (hD.sub [0, 1, 2, 3, 4, 5, 6, 7, 8, 9, 10, 11, 12, 13, 14, 15, 16, 17, 18, 19, 20, 21, 22, 23, 24, 25, 26, 27, 28, 29, 30, 31, 32, 33, 34, 35, 36, 37, 38, 39, 40, 41, 42, 43, 44, 45, 46, 47, 48, 49, 50, 51, 52, 53, 54, 55, 56, 57, 58, 59, 60, 61, 62, 63, 64, 65] (by decide) rfl) hS ls (lv_sub hl [0, 1, 2, 3, 4] rfl)
        have h_192 : ln ≤ 400 := h_192
        have h_193 : bc ≤ 10 := h_193
        have h_194 : w ≤ 10 := h_194
        have h_195 : h ≤ 10 := h_195
        have h_196 : sn ≤ 4 := h_196
        have h_197 : rOK 100 f_stair 24 := h_197
        have h_198 : lnm = ln := h_198
        have h_199 : bcm = bc := h_199
        have h_200 : wm = w := h_200
        have h_201 : hm = h := h_201
        have h_202 : f_tape = tf := h_202
        have h_203 : s_fault = fk := h_203
        have h_204 : s_faultPlace = fp := h_204
        have h_205 : X_f_low_190 = X_f1_187 := h_205
        have h_206 : X_f_high_191 = X_f2_188 := h_206
        have h_207 : f_crack = f5 := h_207
        have h_208 : f_weight = B2 := h_208
        have h_209 : f_fire = B3 := h_209
        have h_210 : f_crowd = B4 := h_210
        have h_211 : f_state = B5 := h_211
        have h_212 : s_hours = ho := h_212
        have h_213 : s_fees = fe := h_213
        have h_214 : CI bc w h B1 B2 B5 B6 B7 f3 f4 wt wh := h_214
        have h_215 : ∀ b, b < bc → B5 b = 1 → f_where b = nI (wh b) := h_215
        have h_216 : Kc P cf1 cf2 cf3 cf4 sc := h_216
        have h_217 : Km P sn f_rule f_stair := h_217
        have h_218 : PB P := h_218
        have h_219 : ∀ c, c < 100 → 0 ≤ (X_f1_187 c).toInt ∧ (X_f1_187 c).toInt ≤ 99 := h_219
        have h_220 : ∀ c, ¬ (c % 10 < w ∧ c / 10 < h) → f5 c = 0 := h_220
        refine lv_iinc (v := nI (7 * t + 7)) (lv' := [(4, Value.int (nI (7 * t + 7))), (0, Value.ref b), (1, Value.ref h0), (2, Value.ref mo), (3, Value.ref qo)]) hx hb dL_law_683 hl (k := 4) rfl (nI_add (7 * t) 7) (by decide) rfl (fun ls hl => ?_)
        rw [show 7 * t + 7 = 7 * (t + 1) from rfl] at hl
        have hl : lv_has ls 7 [(4, Value.int (nI (7 * (t + 1)))), (0, Value.ref b), (1, Value.ref h0), (2, Value.ref mo), (3, Value.ref qo)] := hl
        refine lv_goto (tgt := 23) hx hb dL_law_686 (by decide) ?_
        refine W.widen (k := 67 + (t + 1)) (n := 3176 + 6 * (t + 1)) (by omega) (by omega) ?_
        exact ih ln tf lnm X_s_thrown_189 f_tape fk fp tx rl nx tk sa vl fv dsc dto ef1 ef2 ef3 ef4 sc to cf1 cf2 cf3 cf4 sn s_readStairs s_fault s_faultPlace s_end s_next s_kind s_which s_place s_read f_stair f_rules f_told f_rule P bc ho fe w h X_f1_187 X_f2_188 f3 f4 f5 wm hm bcm s_hours s_fees X_f_low_190 X_f_high_191 f_crack B1 B2 B3 B4 B5 B6 B7 f_weight f_fire f_crowd f_state wt f_where wh f6 f_breaks lk wn on ab l1 l2 l3 l4 l5 s_looks f_row f_tried qd cr s1 s2 s3 s4 f_steps f_paths fo (t + 1) (by omega) (by omega) (by omega) (by omega) (by omega) h_197 (by omega) (by omega) (by omega) (by omega) h_202 h_203 h_204 h_205 h_206 h_207 h_208 h_209 h_210 h_211 h_212 h_213 h_214 h_215 h_216 h_217 h_218 h_219 h_220 (by omega) (by omega) (by omega) H locs (hP.sub [0, 1, 2, 3, 4, 5, 6, 7, 8, 9, 10, 11, 12, 13, 14, 15, 16, 17, 18, 19, 20, 21, 22, 23, 24, 25, 26, 27, 28, 29, 30, 31, 32, 33, 34, 35, 36, 37, 38, 39, 40, 41, 42, 43, 44, 45, 46, 47, 48, 49, 50, 51, 52, 53, 54, 55, 56, 57, 58, 59, 60, 61, 62, 63, 64, 65] rfl) (hD.sub [0, 1, 2, 3, 4, 5, 6, 7, 8, 9, 10, 11, 12, 13, 14, 15, 16, 17, 18, 19, 20, 21, 22, 23, 24, 25, 26, 27, 28, 29, 30, 31, 32, 33, 34, 35, 36, 37, 38, 39, 40, 41, 42, 43, 44, 45, 46, 47, 48, 49, 50, 51, 52, 53, 54, 55, 56, 57, 58, 59, 60, 61, 62, 63, 64, 65] (by decide) rfl) hS ls (lv_sub hl [1, 2, 3, 4, 0] rfl)
      by_cases w_6_5 : z_5 = 5
      · skip
        subst w_6_5
        refine lv_tableIn (tgt := 363) hx hb dL_law_40 (by decide) (by decide) rfl (by decide) ?_
        have hl : lv_has ls 7 [(0, Value.ref b), (1, Value.ref h0), (2, Value.ref mo), (3, Value.ref qo), (4, Value.int (nI (7 * t)))] := hl
        refine lw_case_363 F hA bo B1 B2 B3 B4 B5 B6 B7 h0 tp rd dr fa ly wy tp1 ln tc tf fk fp va tx rl nx tk sa vl vc fv dr1 dr2 dr3 dr4 dsc dto ec1 ef1 ec2 ef2 ec3 ef3 ec4 ef4 cu rv bt bc ho fe cu1 cu2 cu3 cu4 sc to cc1 cf1 cc2 cf2 cc3 cf3 cc4 cf4 w h q1 q2 q3 q4 q5 q6 cy1 f1 cy2 f2 cy3 f3 cy4 f4 cy5 f5 cy6 f6 bc9 lk ly1 wn ly2 ly3 ly4 on ly5 ab lc1 l1 lc2 l2 lc3 l3 lc4 l4 lc5 l5 wy1 wy2 qd wy3 wy4 cr wc1 s1 wc2 s2 wc3 s3 wc4 s4 mo m_tape lnm s_thrown m_rule m_rules sn m_stair s_readStairs s_fault s_faultPlace wm hm m_low m_high m_crack bcm m_weight m_fire m_crowd m_state m_where s_hours s_fees s_looks m_words s_end s_next s_kind s_which s_place s_read m_told m_breaks m_row m_tried m_steps m_paths y_tape f_tape y_rule f_rule y_rules f_rules y_stair f_stair y_low f_low y_high f_high y_crack f_crack y_weight f_weight y_fire f_fire y_crowd f_crowd y_state f_state y_where f_where y_words y_told f_told y_breaks f_breaks y_row f_row y_tried f_tried y_steps f_steps y_paths f_paths qo yo fo (7 * t) (67 + t) (3176 + 6 * t) us e1 e2 e3 e4 en kk b L xs wt wh P (hK.sub [0, 1, 2, 3, 4, 5, 6, 7, 8, 9, 10, 11, 12, 13, 14, 15, 16, 17, 18, 19, 20, 21, 22, 23, 24, 25, 26, 27, 28, 29, 30, 31, 32, 33, 34, 35, 36, 37, 38, 39, 40, 41, 42, 43, 44, 45] rfl) hXC hXE hXs hbl hbA hlt (fun X_B1_221 X_B2_222 X_B3_223 X_B4_224 X_B5_225 X_B6_226 X_B7_227 X_bc_228 X_s_thrown_229 X_bcm_230 X_f_weight_231 X_f_fire_232 X_f_crowd_233 X_f_state_234 X_wt_235 h_236 h_237 h_238 h_239 h_240 h_241 h_242 h_243 h_244 h_245 h_246 h_247 h_248 h_249 h_250 h_251 h_252 h_253 h_254 h_255 h_256 h_257 h_258 h_259 h_260 h_261 h_262 h_263 h_264 H locs hP hD hS ls hl => ?_) _  (by omega) (by omega) (by omega) (by omega) (by omega) hst (by omega) (by omega) (by omega) (by omega) i_tf i_fk i_fp i_lo i_hi i_ck i_we i_fi i_cr i_st i_ho i_fe i_CI i_wr i_Kc i_Km i_PB i_lb i_ou (by omega) (by omega) (by omega) (by omega) (Nat.lt_succ_self _) _ _ (hP.sub [0, 1, 2, 3, 4, 5, 6, 7, 8, 9, 10, 11, 12, 13, 14, 15, 16, 17, 18, 19, 20, 21, 22, 23, 24, 25, 26, 27, 28, 29, 30, 31, 32, 33, 34, 35, 36, 37, 38, 39, 40, 41, 42, 43, 44, 45, 46, 47, 48, 49, 50, 51, 52, 53, 54, 55, 56, 57, 58, 59, 60, 61, 62, 63, 64, 65] rfl) (hD.sub [0, 1, 2, 3, 4, 5, 6, 7, 8, 9, 10, 11, 12, 13, 14, 15, 16, 17, 18, 19, 20, 21, 22, 23, 24, 25, 26, 27, 28, 29, 30, 31, 32, 33, 34, 35, 36, 37, 38, 39, 40, 41, 42, 43, 44, 45, 46, 47, 48, 49, 50, 51, 52, 53, 54, 55, 56, 57, 58, 59, 60, 61, 62, 63, 64, 65] (by decide) rfl) hS ls (lv_sub hl [0, 1, 2, 3, 4] rfl)
        have h_236 : ln ≤ 400 := h_236
        have h_237 : X_bc_228 ≤ 10 := h_237
        have h_238 : w ≤ 10 := h_238
        have h_239 : h ≤ 10 := h_239
        have h_240 : sn ≤ 4 := h_240
        have h_241 : rOK 100 f_stair 24 := h_241
        have h_242 : lnm = ln := h_242
        have h_243 : X_bcm_230 = X_bc_228 := h_243
        have h_244 : wm = w := h_244
        have h_245 : hm = h := h_245
        have h_246 : f_tape = tf := h_246
        have h_247 : s_fault = fk := h_247
        have h_248 : s_faultPlace = fp := h_248
        have h_249 : f_low = f1 := h_249
        have h_250 : f_high = f2 := h_250
        have h_251 : f_crack = f5 := h_251
        have h_252 : X_f_weight_231 = X_B2_222 := h_252
        have h_253 : X_f_fire_232 = X_B3_223 := h_253
        have h_254 : X_f_crowd_233 = X_B4_224 := h_254
        have h_255 : X_f_state_234 = X_B5_225 := h_255
        have h_256 : s_hours = ho := h_256
        have h_257 : s_fees = fe := h_257
        have h_258 : CI X_bc_228 w h X_B1_221 X_B2_222 X_B5_225 X_B6_226 X_B7_227 f3 f4 X_wt_235 wh := h_258
        have h_259 : ∀ b, b < X_bc_228 → X_B5_225 b = 1 → f_where b = nI (wh b) := h_259
        have h_260 : Kc P cf1 cf2 cf3 cf4 sc := h_260
        have h_261 : Km P sn f_rule f_stair := h_261
        have h_262 : PB P := h_262
        have h_263 : ∀ c, c < 100 → 0 ≤ (f1 c).toInt ∧ (f1 c).toInt ≤ 99 := h_263
        have h_264 : ∀ c, ¬ (c % 10 < w ∧ c / 10 < h) → f5 c = 0 := h_264
        refine lv_iinc (v := nI (7 * t + 7)) (lv' := [(4, Value.int (nI (7 * t + 7))), (0, Value.ref b), (1, Value.ref h0), (2, Value.ref mo), (3, Value.ref qo)]) hx hb dL_law_683 hl (k := 4) rfl (nI_add (7 * t) 7) (by decide) rfl (fun ls hl => ?_)
        rw [show 7 * t + 7 = 7 * (t + 1) from rfl] at hl
        have hl : lv_has ls 7 [(4, Value.int (nI (7 * (t + 1)))), (0, Value.ref b), (1, Value.ref h0), (2, Value.ref mo), (3, Value.ref qo)] := hl
        refine lv_goto (tgt := 23) hx hb dL_law_686 (by decide) ?_
        refine W.widen (k := 67 + (t + 1)) (n := 3176 + 6 * (t + 1)) (by omega) (by omega) ?_
        exact ih ln tf lnm X_s_thrown_229 f_tape fk fp tx rl nx tk sa vl fv dsc dto ef1 ef2 ef3 ef4 sc to cf1 cf2 cf3 cf4 sn s_readStairs s_fault s_faultPlace s_end s_next s_kind s_which s_place s_read f_stair f_rules f_told f_rule P X_bc_228 ho fe w h f1 f2 f3 f4 f5 wm hm X_bcm_230 s_hours s_fees f_low f_high f_crack X_B1_221 X_B2_222 X_B3_223 X_B4_224 X_B5_225 X_B6_226 X_B7_227 X_f_weight_231 X_f_fire_232 X_f_crowd_233 X_f_state_234 X_wt_235 f_where wh f6 f_breaks lk wn on ab l1 l2 l3 l4 l5 s_looks f_row f_tried qd cr s1 s2 s3 s4 f_steps f_paths fo (t + 1) (by omega) (by omega) (by omega) (by omega) (by omega) h_241 (by omega) (by omega) (by omega) (by omega) h_246 h_247 h_248 h_249 h_250 h_251 h_252 h_253 h_254 h_255 h_256 h_257 h_258 h_259 h_260 h_261 h_262 h_263 h_264 (by omega) (by omega) (by omega) H locs (hP.sub [0, 1, 2, 3, 4, 5, 6, 7, 8, 9, 10, 11, 12, 13, 14, 15, 16, 17, 18, 19, 20, 21, 22, 23, 24, 25, 26, 27, 28, 29, 30, 31, 32, 33, 34, 35, 36, 37, 38, 39, 40, 41, 42, 43, 44, 45, 46, 47, 48, 49, 50, 51, 52, 53, 54, 55, 56, 57, 58, 59, 60, 61, 62, 63, 64, 65] rfl) (hD.sub [0, 1, 2, 3, 4, 5, 6, 7, 8, 9, 10, 11, 12, 13, 14, 15, 16, 17, 18, 19, 20, 21, 22, 23, 24, 25, 26, 27, 28, 29, 30, 31, 32, 33, 34, 35, 36, 37, 38, 39, 40, 41, 42, 43, 44, 45, 46, 47, 48, 49, 50, 51, 52, 53, 54, 55, 56, 57, 58, 59, 60, 61, 62, 63, 64, 65] (by decide) rfl) hS ls (lv_sub hl [1, 2, 3, 4, 0] rfl)
      by_cases w_6_6 : z_5 = 6
      · skip
        subst w_6_6
        refine lv_tableIn (tgt := 428) hx hb dL_law_40 (by decide) (by decide) rfl (by decide) ?_
        have hl : lv_has ls 7 [(0, Value.ref b), (1, Value.ref h0), (2, Value.ref mo), (3, Value.ref qo), (4, Value.int (nI (7 * t)))] := hl
        refine lw_case_428 F hA bo B1 B2 B3 B4 B5 B6 B7 h0 tp rd dr fa ly wy tp1 ln tc tf fk fp va tx rl nx tk sa vl vc fv dr1 dr2 dr3 dr4 dsc dto ec1 ef1 ec2 ef2 ec3 ef3 ec4 ef4 cu rv bt bc ho fe cu1 cu2 cu3 cu4 sc to cc1 cf1 cc2 cf2 cc3 cf3 cc4 cf4 w h q1 q2 q3 q4 q5 q6 cy1 f1 cy2 f2 cy3 f3 cy4 f4 cy5 f5 cy6 f6 bc9 lk ly1 wn ly2 ly3 ly4 on ly5 ab lc1 l1 lc2 l2 lc3 l3 lc4 l4 lc5 l5 wy1 wy2 qd wy3 wy4 cr wc1 s1 wc2 s2 wc3 s3 wc4 s4 mo m_tape lnm s_thrown m_rule m_rules sn m_stair s_readStairs s_fault s_faultPlace wm hm m_low m_high m_crack bcm m_weight m_fire m_crowd m_state m_where s_hours s_fees s_looks m_words s_end s_next s_kind s_which s_place s_read m_told m_breaks m_row m_tried m_steps m_paths y_tape f_tape y_rule f_rule y_rules f_rules y_stair f_stair y_low f_low y_high f_high y_crack f_crack y_weight f_weight y_fire f_fire y_crowd f_crowd y_state f_state y_where f_where y_words y_told f_told y_breaks f_breaks y_row f_row y_tried f_tried y_steps f_steps y_paths f_paths qo yo fo (7 * t) (67 + t) (3176 + 6 * t) us e1 e2 e3 e4 en kk b L xs wt wh P (hK.sub [0, 1, 2, 3, 4, 5, 6, 7, 8, 9, 10, 11, 12, 13, 14, 15, 16, 17, 18, 19, 20, 21, 22, 23, 24, 25, 26, 27, 28, 29, 30, 31, 32, 33, 34, 35, 36, 37, 38, 39, 40, 41, 42, 43, 44, 45] rfl) hXC hXE hXs hbl hbA hlt (fun X_B5_265 X_B6_266 X_B7_267 X_fe_268 X_f3_269 X_f4_270 X_s_thrown_271 X_s_fees_272 X_f_state_273 X_f_where_274 X_wh_275 h_276 h_277 h_278 h_279 h_280 h_281 h_282 h_283 h_284 h_285 h_286 h_287 h_288 h_289 h_290 h_291 h_292 h_293 h_294 h_295 h_296 h_297 h_298 h_299 h_300 h_301 h_302 h_303 h_304 H locs hP hD hS ls hl => ?_) _  (by omega) (by omega) (by omega) (by omega) (by omega) hst (by omega) (by omega) (by omega) (by omega) i_tf i_fk i_fp i_lo i_hi i_ck i_we i_fi i_cr i_st i_ho i_fe i_CI i_wr i_Kc i_Km i_PB i_lb i_ou (by omega) (by omega) (by omega) (by omega) (Nat.lt_succ_self _) _ _ (hP.sub [0, 1, 2, 3, 4, 5, 6, 7, 8, 9, 10, 11, 12, 13, 14, 15, 16, 17, 18, 19, 20, 21, 22, 23, 24, 25, 26, 27, 28, 29, 30, 31, 32, 33, 34, 35, 36, 37, 38, 39, 40, 41, 42, 43, 44, 45, 46, 47, 48, 49, 50, 51, 52, 53, 54, 55, 56, 57, 58, 59, 60, 61, 62, 63, 64, 65] rfl) (hD.sub [0, 1, 2, 3, 4, 5, 6, 7, 8, 9, 10, 11, 12, 13, 14, 15, 16, 17, 18, 19, 20, 21, 22, 23, 24, 25, 26, 27, 28, 29, 30, 31, 32, 33, 34, 35, 36, 37, 38, 39, 40, 41, 42, 43, 44, 45, 46, 47, 48, 49, 50, 51, 52, 53, 54, 55, 56, 57, 58, 59, 60, 61, 62, 63, 64, 65] (by decide) rfl) hS ls (lv_sub hl [0, 1, 2, 3, 4] rfl)
        have h_276 : ln ≤ 400 := h_276
        have h_277 : bc ≤ 10 := h_277
        have h_278 : w ≤ 10 := h_278
        have h_279 : h ≤ 10 := h_279
        have h_280 : sn ≤ 4 := h_280
        have h_281 : rOK 100 f_stair 24 := h_281
        have h_282 : lnm = ln := h_282
        have h_283 : bcm = bc := h_283
        have h_284 : wm = w := h_284
        have h_285 : hm = h := h_285
        have h_286 : f_tape = tf := h_286
        have h_287 : s_fault = fk := h_287
        have h_288 : s_faultPlace = fp := h_288
        have h_289 : f_low = f1 := h_289
        have h_290 : f_high = f2 := h_290
        have h_291 : f_crack = f5 := h_291
        have h_292 : f_weight = B2 := h_292
        have h_293 : f_fire = B3 := h_293
        have h_294 : f_crowd = B4 := h_294
        have h_295 : X_f_state_273 = X_B5_265 := h_295
        have h_296 : s_hours = ho := h_296
        have h_297 : X_s_fees_272 = X_fe_268 := h_297
        have h_298 : CI bc w h B1 B2 X_B5_265 X_B6_266 X_B7_267 X_f3_269 X_f4_270 wt X_wh_275 := h_298
        have h_299 : ∀ b, b < bc → X_B5_265 b = 1 → X_f_where_274 b = nI (X_wh_275 b) := h_299
        have h_300 : Kc P cf1 cf2 cf3 cf4 sc := h_300
        have h_301 : Km P sn f_rule f_stair := h_301
        have h_302 : PB P := h_302
        have h_303 : ∀ c, c < 100 → 0 ≤ (f1 c).toInt ∧ (f1 c).toInt ≤ 99 := h_303
        have h_304 : ∀ c, ¬ (c % 10 < w ∧ c / 10 < h) → f5 c = 0 := h_304
        refine lv_iinc (v := nI (7 * t + 7)) (lv' := [(4, Value.int (nI (7 * t + 7))), (0, Value.ref b), (1, Value.ref h0), (2, Value.ref mo), (3, Value.ref qo)]) hx hb dL_law_683 hl (k := 4) rfl (nI_add (7 * t) 7) (by decide) rfl (fun ls hl => ?_)
        rw [show 7 * t + 7 = 7 * (t + 1) from rfl] at hl
        have hl : lv_has ls 7 [(4, Value.int (nI (7 * (t + 1)))), (0, Value.ref b), (1, Value.ref h0), (2, Value.ref mo), (3, Value.ref qo)] := hl
        refine lv_goto (tgt := 23) hx hb dL_law_686 (by decide) ?_
        refine W.widen (k := 67 + (t + 1)) (n := 3176 + 6 * (t + 1)) (by omega) (by omega) ?_
        exact ih ln tf lnm X_s_thrown_271 f_tape fk fp tx rl nx tk sa vl fv dsc dto ef1 ef2 ef3 ef4 sc to cf1 cf2 cf3 cf4 sn s_readStairs s_fault s_faultPlace s_end s_next s_kind s_which s_place s_read f_stair f_rules f_told f_rule P bc ho X_fe_268 w h f1 f2 X_f3_269 X_f4_270 f5 wm hm bcm s_hours X_s_fees_272 f_low f_high f_crack B1 B2 B3 B4 X_B5_265 X_B6_266 X_B7_267 f_weight f_fire f_crowd X_f_state_273 wt X_f_where_274 X_wh_275 f6 f_breaks lk wn on ab l1 l2 l3 l4 l5 s_looks f_row f_tried qd cr s1 s2 s3 s4 f_steps f_paths fo (t + 1) (by omega) (by omega) (by omega) (by omega) (by omega) h_281 (by omega) (by omega) (by omega) (by omega) h_286 h_287 h_288 h_289 h_290 h_291 h_292 h_293 h_294 h_295 h_296 h_297 h_298 h_299 h_300 h_301 h_302 h_303 h_304 (by omega) (by omega) (by omega) H locs (hP.sub [0, 1, 2, 3, 4, 5, 6, 7, 8, 9, 10, 11, 12, 13, 14, 15, 16, 17, 18, 19, 20, 21, 22, 23, 24, 25, 26, 27, 28, 29, 30, 31, 32, 33, 34, 35, 36, 37, 38, 39, 40, 41, 42, 43, 44, 45, 46, 47, 48, 49, 50, 51, 52, 53, 54, 55, 56, 57, 58, 59, 60, 61, 62, 63, 64, 65] rfl) (hD.sub [0, 1, 2, 3, 4, 5, 6, 7, 8, 9, 10, 11, 12, 13, 14, 15, 16, 17, 18, 19, 20, 21, 22, 23, 24, 25, 26, 27, 28, 29, 30, 31, 32, 33, 34, 35, 36, 37, 38, 39, 40, 41, 42, 43, 44, 45, 46, 47, 48, 49, 50, 51, 52, 53, 54, 55, 56, 57, 58, 59, 60, 61, 62, 63, 64, 65] (by decide) rfl) hS ls (lv_sub hl [1, 2, 3, 4, 0] rfl)
      by_cases w_6_7 : z_5 = 7
      · skip
        subst w_6_7
        refine lv_tableIn (tgt := 477) hx hb dL_law_40 (by decide) (by decide) rfl (by decide) ?_
        have hl : lv_has ls 7 [(0, Value.ref b), (1, Value.ref h0), (2, Value.ref mo), (3, Value.ref qo), (4, Value.int (nI (7 * t)))] := hl
        refine lw_case_477 F hA bo B1 B2 B3 B4 B5 B6 B7 h0 tp rd dr fa ly wy tp1 ln tc tf fk fp va tx rl nx tk sa vl vc fv dr1 dr2 dr3 dr4 dsc dto ec1 ef1 ec2 ef2 ec3 ef3 ec4 ef4 cu rv bt bc ho fe cu1 cu2 cu3 cu4 sc to cc1 cf1 cc2 cf2 cc3 cf3 cc4 cf4 w h q1 q2 q3 q4 q5 q6 cy1 f1 cy2 f2 cy3 f3 cy4 f4 cy5 f5 cy6 f6 bc9 lk ly1 wn ly2 ly3 ly4 on ly5 ab lc1 l1 lc2 l2 lc3 l3 lc4 l4 lc5 l5 wy1 wy2 qd wy3 wy4 cr wc1 s1 wc2 s2 wc3 s3 wc4 s4 mo m_tape lnm s_thrown m_rule m_rules sn m_stair s_readStairs s_fault s_faultPlace wm hm m_low m_high m_crack bcm m_weight m_fire m_crowd m_state m_where s_hours s_fees s_looks m_words s_end s_next s_kind s_which s_place s_read m_told m_breaks m_row m_tried m_steps m_paths y_tape f_tape y_rule f_rule y_rules f_rules y_stair f_stair y_low f_low y_high f_high y_crack f_crack y_weight f_weight y_fire f_fire y_crowd f_crowd y_state f_state y_where f_where y_words y_told f_told y_breaks f_breaks y_row f_row y_tried f_tried y_steps f_steps y_paths f_paths qo yo fo (7 * t) (67 + t) (3176 + 6 * t) us e1 e2 e3 e4 en kk b L xs wt wh P (hK.sub [0, 1, 2, 3, 4, 5, 6, 7, 8, 9, 10, 11, 12, 13, 14, 15, 16, 17, 18, 19, 20, 21, 22, 23, 24, 25, 26, 27, 28, 29, 30, 31, 32, 33, 34, 35, 36, 37, 38, 39, 40, 41, 42, 43, 44, 45] rfl) hXC hXE hXs hbl hbA hlt (fun X_B5_305 X_B6_306 X_B7_307 X_f3_308 X_f4_309 X_s_thrown_310 X_f_state_311 h_312 h_313 h_314 h_315 h_316 h_317 h_318 h_319 h_320 h_321 h_322 h_323 h_324 h_325 h_326 h_327 h_328 h_329 h_330 h_331 h_332 h_333 h_334 h_335 h_336 h_337 h_338 h_339 h_340 H locs hP hD hS ls hl => ?_) _  (by omega) (by omega) (by omega) (by omega) (by omega) hst (by omega) (by omega) (by omega) (by omega) i_tf i_fk i_fp i_lo i_hi i_ck i_we i_fi i_cr i_st i_ho i_fe i_CI i_wr i_Kc i_Km i_PB i_lb i_ou (by omega) (by omega) (by omega) (by omega) (Nat.lt_succ_self _) _ _ (hP.sub [0, 1, 2, 3, 4, 5, 6, 7, 8, 9, 10, 11, 12, 13, 14, 15, 16, 17, 18, 19, 20, 21, 22, 23, 24, 25, 26, 27, 28, 29, 30, 31, 32, 33, 34, 35, 36, 37, 38, 39, 40, 41, 42, 43, 44, 45, 46, 47, 48, 49, 50, 51, 52, 53, 54, 55, 56, 57, 58, 59, 60, 61, 62, 63, 64, 65] rfl) (hD.sub [0, 1, 2, 3, 4, 5, 6, 7, 8, 9, 10, 11, 12, 13, 14, 15, 16, 17, 18, 19, 20, 21, 22, 23, 24, 25, 26, 27, 28, 29, 30, 31, 32, 33, 34, 35, 36, 37, 38, 39, 40, 41, 42, 43, 44, 45, 46, 47, 48, 49, 50, 51, 52, 53, 54, 55, 56, 57, 58, 59, 60, 61, 62, 63, 64, 65] (by decide) rfl) hS ls (lv_sub hl [0, 1, 2, 3, 4] rfl)
        have h_312 : ln ≤ 400 := h_312
        have h_313 : bc ≤ 10 := h_313
        have h_314 : w ≤ 10 := h_314
        have h_315 : h ≤ 10 := h_315
        have h_316 : sn ≤ 4 := h_316
        have h_317 : rOK 100 f_stair 24 := h_317
        have h_318 : lnm = ln := h_318
        have h_319 : bcm = bc := h_319
        have h_320 : wm = w := h_320
        have h_321 : hm = h := h_321
        have h_322 : f_tape = tf := h_322
        have h_323 : s_fault = fk := h_323
        have h_324 : s_faultPlace = fp := h_324
        have h_325 : f_low = f1 := h_325
        have h_326 : f_high = f2 := h_326
        have h_327 : f_crack = f5 := h_327
        have h_328 : f_weight = B2 := h_328
        have h_329 : f_fire = B3 := h_329
        have h_330 : f_crowd = B4 := h_330
        have h_331 : X_f_state_311 = X_B5_305 := h_331
        have h_332 : s_hours = ho := h_332
        have h_333 : s_fees = fe := h_333
        have h_334 : CI bc w h B1 B2 X_B5_305 X_B6_306 X_B7_307 X_f3_308 X_f4_309 wt wh := h_334
        have h_335 : ∀ b, b < bc → X_B5_305 b = 1 → f_where b = nI (wh b) := h_335
        have h_336 : Kc P cf1 cf2 cf3 cf4 sc := h_336
        have h_337 : Km P sn f_rule f_stair := h_337
        have h_338 : PB P := h_338
        have h_339 : ∀ c, c < 100 → 0 ≤ (f1 c).toInt ∧ (f1 c).toInt ≤ 99 := h_339
        have h_340 : ∀ c, ¬ (c % 10 < w ∧ c / 10 < h) → f5 c = 0 := h_340
        refine lv_iinc (v := nI (7 * t + 7)) (lv' := [(4, Value.int (nI (7 * t + 7))), (0, Value.ref b), (1, Value.ref h0), (2, Value.ref mo), (3, Value.ref qo)]) hx hb dL_law_683 hl (k := 4) rfl (nI_add (7 * t) 7) (by decide) rfl (fun ls hl => ?_)
        rw [show 7 * t + 7 = 7 * (t + 1) from rfl] at hl
        have hl : lv_has ls 7 [(4, Value.int (nI (7 * (t + 1)))), (0, Value.ref b), (1, Value.ref h0), (2, Value.ref mo), (3, Value.ref qo)] := hl
        refine lv_goto (tgt := 23) hx hb dL_law_686 (by decide) ?_
        refine W.widen (k := 67 + (t + 1)) (n := 3176 + 6 * (t + 1)) (by omega) (by omega) ?_
        exact ih ln tf lnm X_s_thrown_310 f_tape fk fp tx rl nx tk sa vl fv dsc dto ef1 ef2 ef3 ef4 sc to cf1 cf2 cf3 cf4 sn s_readStairs s_fault s_faultPlace s_end s_next s_kind s_which s_place s_read f_stair f_rules f_told f_rule P bc ho fe w h f1 f2 X_f3_308 X_f4_309 f5 wm hm bcm s_hours s_fees f_low f_high f_crack B1 B2 B3 B4 X_B5_305 X_B6_306 X_B7_307 f_weight f_fire f_crowd X_f_state_311 wt f_where wh f6 f_breaks lk wn on ab l1 l2 l3 l4 l5 s_looks f_row f_tried qd cr s1 s2 s3 s4 f_steps f_paths fo (t + 1) (by omega) (by omega) (by omega) (by omega) (by omega) h_317 (by omega) (by omega) (by omega) (by omega) h_322 h_323 h_324 h_325 h_326 h_327 h_328 h_329 h_330 h_331 h_332 h_333 h_334 h_335 h_336 h_337 h_338 h_339 h_340 (by omega) (by omega) (by omega) H locs (hP.sub [0, 1, 2, 3, 4, 5, 6, 7, 8, 9, 10, 11, 12, 13, 14, 15, 16, 17, 18, 19, 20, 21, 22, 23, 24, 25, 26, 27, 28, 29, 30, 31, 32, 33, 34, 35, 36, 37, 38, 39, 40, 41, 42, 43, 44, 45, 46, 47, 48, 49, 50, 51, 52, 53, 54, 55, 56, 57, 58, 59, 60, 61, 62, 63, 64, 65] rfl) (hD.sub [0, 1, 2, 3, 4, 5, 6, 7, 8, 9, 10, 11, 12, 13, 14, 15, 16, 17, 18, 19, 20, 21, 22, 23, 24, 25, 26, 27, 28, 29, 30, 31, 32, 33, 34, 35, 36, 37, 38, 39, 40, 41, 42, 43, 44, 45, 46, 47, 48, 49, 50, 51, 52, 53, 54, 55, 56, 57, 58, 59, 60, 61, 62, 63, 64, 65] (by decide) rfl) hS ls (lv_sub hl [1, 2, 3, 4, 0] rfl)
      by_cases w_6_8 : z_5 = 8
      · skip
        subst w_6_8
        refine lv_tableIn (tgt := 502) hx hb dL_law_40 (by decide) (by decide) rfl (by decide) ?_
        have hl : lv_has ls 7 [(0, Value.ref b), (1, Value.ref h0), (2, Value.ref mo), (3, Value.ref qo), (4, Value.int (nI (7 * t)))] := hl
        refine lw_case_502 F hA bo B1 B2 B3 B4 B5 B6 B7 h0 tp rd dr fa ly wy tp1 ln tc tf fk fp va tx rl nx tk sa vl vc fv dr1 dr2 dr3 dr4 dsc dto ec1 ef1 ec2 ef2 ec3 ef3 ec4 ef4 cu rv bt bc ho fe cu1 cu2 cu3 cu4 sc to cc1 cf1 cc2 cf2 cc3 cf3 cc4 cf4 w h q1 q2 q3 q4 q5 q6 cy1 f1 cy2 f2 cy3 f3 cy4 f4 cy5 f5 cy6 f6 bc9 lk ly1 wn ly2 ly3 ly4 on ly5 ab lc1 l1 lc2 l2 lc3 l3 lc4 l4 lc5 l5 wy1 wy2 qd wy3 wy4 cr wc1 s1 wc2 s2 wc3 s3 wc4 s4 mo m_tape lnm s_thrown m_rule m_rules sn m_stair s_readStairs s_fault s_faultPlace wm hm m_low m_high m_crack bcm m_weight m_fire m_crowd m_state m_where s_hours s_fees s_looks m_words s_end s_next s_kind s_which s_place s_read m_told m_breaks m_row m_tried m_steps m_paths y_tape f_tape y_rule f_rule y_rules f_rules y_stair f_stair y_low f_low y_high f_high y_crack f_crack y_weight f_weight y_fire f_fire y_crowd f_crowd y_state f_state y_where f_where y_words y_told f_told y_breaks f_breaks y_row f_row y_tried f_tried y_steps f_steps y_paths f_paths qo yo fo (7 * t) (67 + t) (3176 + 6 * t) us e1 e2 e3 e4 en kk b L xs wt wh P (hK.sub [0, 1, 2, 3, 4, 5, 6, 7, 8, 9, 10, 11, 12, 13, 14, 15, 16, 17, 18, 19, 20, 21, 22, 23, 24, 25, 26, 27, 28, 29, 30, 31, 32, 33, 34, 35, 36, 37, 38, 39, 40, 41, 42, 43, 44, 45] rfl) hXC hXE hXs hbl hbA hlt (fun X_B5_341 X_B6_342 X_B7_343 X_ho_344 X_f1_345 X_f2_346 X_f3_347 X_f4_348 X_f5_349 X_f6_350 X_s_thrown_351 X_s_hours_352 X_f_low_353 X_f_high_354 X_f_crack_355 X_f_breaks_356 X_f_state_357 h_358 h_359 h_360 h_361 h_362 h_363 h_364 h_365 h_366 h_367 h_368 h_369 h_370 h_371 h_372 h_373 h_374 h_375 h_376 h_377 h_378 h_379 h_380 h_381 h_382 h_383 h_384 h_385 h_386 H locs hP hD hS ls hl => ?_) _  (by omega) (by omega) (by omega) (by omega) (by omega) hst (by omega) (by omega) (by omega) (by omega) i_tf i_fk i_fp i_lo i_hi i_ck i_we i_fi i_cr i_st i_ho i_fe i_CI i_wr i_Kc i_Km i_PB i_lb i_ou (by omega) (by omega) (by omega) (by omega) (Nat.lt_succ_self _) _ _ (hP.sub [0, 1, 2, 3, 4, 5, 6, 7, 8, 9, 10, 11, 12, 13, 14, 15, 16, 17, 18, 19, 20, 21, 22, 23, 24, 25, 26, 27, 28, 29, 30, 31, 32, 33, 34, 35, 36, 37, 38, 39, 40, 41, 42, 43, 44, 45, 46, 47, 48, 49, 50, 51, 52, 53, 54, 55, 56, 57, 58, 59, 60, 61, 62, 63, 64, 65] rfl) (hD.sub [0, 1, 2, 3, 4, 5, 6, 7, 8, 9, 10, 11, 12, 13, 14, 15, 16, 17, 18, 19, 20, 21, 22, 23, 24, 25, 26, 27, 28, 29, 30, 31, 32, 33, 34, 35, 36, 37, 38, 39, 40, 41, 42, 43, 44, 45, 46, 47, 48, 49, 50, 51, 52, 53, 54, 55, 56, 57, 58, 59, 60, 61, 62, 63, 64, 65] (by decide) rfl) hS ls (lv_sub hl [0, 1, 2, 3, 4] rfl)
        have h_358 : ln ≤ 400 := h_358
        have h_359 : bc ≤ 10 := h_359
        have h_360 : w ≤ 10 := h_360
        have h_361 : h ≤ 10 := h_361
        have h_362 : sn ≤ 4 := h_362
        have h_363 : rOK 100 f_stair 24 := h_363
        have h_364 : lnm = ln := h_364
        have h_365 : bcm = bc := h_365
        have h_366 : wm = w := h_366
        have h_367 : hm = h := h_367
        have h_368 : f_tape = tf := h_368
        have h_369 : s_fault = fk := h_369
        have h_370 : s_faultPlace = fp := h_370
        have h_371 : X_f_low_353 = X_f1_345 := h_371
        have h_372 : X_f_high_354 = X_f2_346 := h_372
        have h_373 : X_f_crack_355 = X_f5_349 := h_373
        have h_374 : f_weight = B2 := h_374
        have h_375 : f_fire = B3 := h_375
        have h_376 : f_crowd = B4 := h_376
        have h_377 : X_f_state_357 = X_B5_341 := h_377
        have h_378 : X_s_hours_352 = X_ho_344 := h_378
        have h_379 : s_fees = fe := h_379
        have h_380 : CI bc w h B1 B2 X_B5_341 X_B6_342 X_B7_343 X_f3_347 X_f4_348 wt wh := h_380
        have h_381 : ∀ b, b < bc → X_B5_341 b = 1 → f_where b = nI (wh b) := h_381
        have h_382 : Kc P cf1 cf2 cf3 cf4 sc := h_382
        have h_383 : Km P sn f_rule f_stair := h_383
        have h_384 : PB P := h_384
        have h_385 : ∀ c, c < 100 → 0 ≤ (X_f1_345 c).toInt ∧ (X_f1_345 c).toInt ≤ 99 := h_385
        have h_386 : ∀ c, ¬ (c % 10 < w ∧ c / 10 < h) → X_f5_349 c = 0 := h_386
        refine lv_iinc (v := nI (7 * t + 7)) (lv' := [(4, Value.int (nI (7 * t + 7))), (0, Value.ref b), (1, Value.ref h0), (2, Value.ref mo), (3, Value.ref qo)]) hx hb dL_law_683 hl (k := 4) rfl (nI_add (7 * t) 7) (by decide) rfl (fun ls hl => ?_)
        rw [show 7 * t + 7 = 7 * (t + 1) from rfl] at hl
        have hl : lv_has ls 7 [(4, Value.int (nI (7 * (t + 1)))), (0, Value.ref b), (1, Value.ref h0), (2, Value.ref mo), (3, Value.ref qo)] := hl
        refine lv_goto (tgt := 23) hx hb dL_law_686 (by decide) ?_
        refine W.widen (k := 67 + (t + 1)) (n := 3176 + 6 * (t + 1)) (by omega) (by omega) ?_
        exact ih ln tf lnm X_s_thrown_351 f_tape fk fp tx rl nx tk sa vl fv dsc dto ef1 ef2 ef3 ef4 sc to cf1 cf2 cf3 cf4 sn s_readStairs s_fault s_faultPlace s_end s_next s_kind s_which s_place s_read f_stair f_rules f_told f_rule P bc X_ho_344 fe w h X_f1_345 X_f2_346 X_f3_347 X_f4_348 X_f5_349 wm hm bcm X_s_hours_352 s_fees X_f_low_353 X_f_high_354 X_f_crack_355 B1 B2 B3 B4 X_B5_341 X_B6_342 X_B7_343 f_weight f_fire f_crowd X_f_state_357 wt f_where wh X_f6_350 X_f_breaks_356 lk wn on ab l1 l2 l3 l4 l5 s_looks f_row f_tried qd cr s1 s2 s3 s4 f_steps f_paths fo (t + 1) (by omega) (by omega) (by omega) (by omega) (by omega) h_363 (by omega) (by omega) (by omega) (by omega) h_368 h_369 h_370 h_371 h_372 h_373 h_374 h_375 h_376 h_377 h_378 h_379 h_380 h_381 h_382 h_383 h_384 h_385 h_386 (by omega) (by omega) (by omega) H locs (hP.sub [0, 1, 2, 3, 4, 5, 6, 7, 8, 9, 10, 11, 12, 13, 14, 15, 16, 17, 18, 19, 20, 21, 22, 23, 24, 25, 26, 27, 28, 29, 30, 31, 32, 33, 34, 35, 36, 37, 38, 39, 40, 41, 42, 43, 44, 45, 46, 47, 48, 49, 50, 51, 52, 53, 54, 55, 56, 57, 58, 59, 60, 61, 62, 63, 64, 65] rfl) (hD.sub [0, 1, 2, 3, 4, 5, 6, 7, 8, 9, 10, 11, 12, 13, 14, 15, 16, 17, 18, 19, 20, 21, 22, 23, 24, 25, 26, 27, 28, 29, 30, 31, 32, 33, 34, 35, 36, 37, 38, 39, 40, 41, 42, 43, 44, 45, 46, 47, 48, 49, 50, 51, 52, 53, 54, 55, 56, 57, 58, 59, 60, 61, 62, 63, 64, 65] (by decide) rfl) hS ls (lv_sub hl [1, 2, 3, 4, 0] rfl)
      by_cases w_6_9 : z_5 = 9
      · skip
        subst w_6_9
        refine lv_tableIn (tgt := 527) hx hb dL_law_40 (by decide) (by decide) rfl (by decide) ?_
        have hl : lv_has ls 7 [(0, Value.ref b), (1, Value.ref h0), (2, Value.ref mo), (3, Value.ref qo), (4, Value.int (nI (7 * t)))] := hl
        refine lw_case_527 F hA bo B1 B2 B3 B4 B5 B6 B7 h0 tp rd dr fa ly wy tp1 ln tc tf fk fp va tx rl nx tk sa vl vc fv dr1 dr2 dr3 dr4 dsc dto ec1 ef1 ec2 ef2 ec3 ef3 ec4 ef4 cu rv bt bc ho fe cu1 cu2 cu3 cu4 sc to cc1 cf1 cc2 cf2 cc3 cf3 cc4 cf4 w h q1 q2 q3 q4 q5 q6 cy1 f1 cy2 f2 cy3 f3 cy4 f4 cy5 f5 cy6 f6 bc9 lk ly1 wn ly2 ly3 ly4 on ly5 ab lc1 l1 lc2 l2 lc3 l3 lc4 l4 lc5 l5 wy1 wy2 qd wy3 wy4 cr wc1 s1 wc2 s2 wc3 s3 wc4 s4 mo m_tape lnm s_thrown m_rule m_rules sn m_stair s_readStairs s_fault s_faultPlace wm hm m_low m_high m_crack bcm m_weight m_fire m_crowd m_state m_where s_hours s_fees s_looks m_words s_end s_next s_kind s_which s_place s_read m_told m_breaks m_row m_tried m_steps m_paths y_tape f_tape y_rule f_rule y_rules f_rules y_stair f_stair y_low f_low y_high f_high y_crack f_crack y_weight f_weight y_fire f_fire y_crowd f_crowd y_state f_state y_where f_where y_words y_told f_told y_breaks f_breaks y_row f_row y_tried f_tried y_steps f_steps y_paths f_paths qo yo fo (7 * t) (67 + t) (3176 + 6 * t) us e1 e2 e3 e4 en kk b L xs wt wh P (hK.sub [0, 1, 2, 3, 4, 5, 6, 7, 8, 9, 10, 11, 12, 13, 14, 15, 16, 17, 18, 19, 20, 21, 22, 23, 24, 25, 26, 27, 28, 29, 30, 31, 32, 33, 34, 35, 36, 37, 38, 39, 40, 41, 42, 43, 44, 45] rfl) hXC hXE hXs hbl hbA hlt (fun X_B5_387 X_B6_388 X_B7_389 X_fe_390 X_f3_391 X_f4_392 X_lk_393 X_wn_394 X_on_395 X_ab_396 X_l1_397 X_l2_398 X_l3_399 X_l4_400 X_l5_401 X_s_thrown_402 X_s_fees_403 X_s_looks_404 X_f_row_405 X_f_tried_406 X_f_state_407 X_f_where_408 X_wh_409 h_410 h_411 h_412 h_413 h_414 h_415 h_416 h_417 h_418 h_419 h_420 h_421 h_422 h_423 h_424 h_425 h_426 h_427 h_428 h_429 h_430 h_431 h_432 h_433 h_434 h_435 h_436 h_437 h_438 H locs hP hD hS ls hl => ?_) _  (by omega) (by omega) (by omega) (by omega) (by omega) hst (by omega) (by omega) (by omega) (by omega) i_tf i_fk i_fp i_lo i_hi i_ck i_we i_fi i_cr i_st i_ho i_fe i_CI i_wr i_Kc i_Km i_PB i_lb i_ou (by omega) (by omega) (by omega) (by omega) (Nat.lt_succ_self _) _ _ (hP.sub [0, 1, 2, 3, 4, 5, 6, 7, 8, 9, 10, 11, 12, 13, 14, 15, 16, 17, 18, 19, 20, 21, 22, 23, 24, 25, 26, 27, 28, 29, 30, 31, 32, 33, 34, 35, 36, 37, 38, 39, 40, 41, 42, 43, 44, 45, 46, 47, 48, 49, 50, 51, 52, 53, 54, 55, 56, 57, 58, 59, 60, 61, 62, 63, 64, 65] rfl) (hD.sub [0, 1, 2, 3, 4, 5, 6, 7, 8, 9, 10, 11, 12, 13, 14, 15, 16, 17, 18, 19, 20, 21, 22, 23, 24, 25, 26, 27, 28, 29, 30, 31, 32, 33, 34, 35, 36, 37, 38, 39, 40, 41, 42, 43, 44, 45, 46, 47, 48, 49, 50, 51, 52, 53, 54, 55, 56, 57, 58, 59, 60, 61, 62, 63, 64, 65] (by decide) rfl) hS ls (lv_sub hl [0, 1, 2, 3, 4] rfl)
        have h_410 : ln ≤ 400 := h_410
        have h_411 : bc ≤ 10 := h_411
        have h_412 : w ≤ 10 := h_412
        have h_413 : h ≤ 10 := h_413
        have h_414 : sn ≤ 4 := h_414
        have h_415 : rOK 100 f_stair 24 := h_415
        have h_416 : lnm = ln := h_416
        have h_417 : bcm = bc := h_417
        have h_418 : wm = w := h_418
        have h_419 : hm = h := h_419
        have h_420 : f_tape = tf := h_420
        have h_421 : s_fault = fk := h_421
        have h_422 : s_faultPlace = fp := h_422
        have h_423 : f_low = f1 := h_423
        have h_424 : f_high = f2 := h_424
        have h_425 : f_crack = f5 := h_425
        have h_426 : f_weight = B2 := h_426
        have h_427 : f_fire = B3 := h_427
        have h_428 : f_crowd = B4 := h_428
        have h_429 : X_f_state_407 = X_B5_387 := h_429
        have h_430 : s_hours = ho := h_430
        have h_431 : X_s_fees_403 = X_fe_390 := h_431
        have h_432 : CI bc w h B1 B2 X_B5_387 X_B6_388 X_B7_389 X_f3_391 X_f4_392 wt X_wh_409 := h_432
        have h_433 : ∀ b, b < bc → X_B5_387 b = 1 → X_f_where_408 b = nI (X_wh_409 b) := h_433
        have h_434 : Kc P cf1 cf2 cf3 cf4 sc := h_434
        have h_435 : Km P sn f_rule f_stair := h_435
        have h_436 : PB P := h_436
        have h_437 : ∀ c, c < 100 → 0 ≤ (f1 c).toInt ∧ (f1 c).toInt ≤ 99 := h_437
        have h_438 : ∀ c, ¬ (c % 10 < w ∧ c / 10 < h) → f5 c = 0 := h_438
        refine lv_iinc (v := nI (7 * t + 7)) (lv' := [(4, Value.int (nI (7 * t + 7))), (0, Value.ref b), (1, Value.ref h0), (2, Value.ref mo), (3, Value.ref qo)]) hx hb dL_law_683 hl (k := 4) rfl (nI_add (7 * t) 7) (by decide) rfl (fun ls hl => ?_)
        rw [show 7 * t + 7 = 7 * (t + 1) from rfl] at hl
        have hl : lv_has ls 7 [(4, Value.int (nI (7 * (t + 1)))), (0, Value.ref b), (1, Value.ref h0), (2, Value.ref mo), (3, Value.ref qo)] := hl
        refine lv_goto (tgt := 23) hx hb dL_law_686 (by decide) ?_
        refine W.widen (k := 67 + (t + 1)) (n := 3176 + 6 * (t + 1)) (by omega) (by omega) ?_
        exact ih ln tf lnm X_s_thrown_402 f_tape fk fp tx rl nx tk sa vl fv dsc dto ef1 ef2 ef3 ef4 sc to cf1 cf2 cf3 cf4 sn s_readStairs s_fault s_faultPlace s_end s_next s_kind s_which s_place s_read f_stair f_rules f_told f_rule P bc ho X_fe_390 w h f1 f2 X_f3_391 X_f4_392 f5 wm hm bcm s_hours X_s_fees_403 f_low f_high f_crack B1 B2 B3 B4 X_B5_387 X_B6_388 X_B7_389 f_weight f_fire f_crowd X_f_state_407 wt X_f_where_408 X_wh_409 f6 f_breaks X_lk_393 X_wn_394 X_on_395 X_ab_396 X_l1_397 X_l2_398 X_l3_399 X_l4_400 X_l5_401 X_s_looks_404 X_f_row_405 X_f_tried_406 qd cr s1 s2 s3 s4 f_steps f_paths fo (t + 1) (by omega) (by omega) (by omega) (by omega) (by omega) h_415 (by omega) (by omega) (by omega) (by omega) h_420 h_421 h_422 h_423 h_424 h_425 h_426 h_427 h_428 h_429 h_430 h_431 h_432 h_433 h_434 h_435 h_436 h_437 h_438 (by omega) (by omega) (by omega) H locs (hP.sub [0, 1, 2, 3, 4, 5, 6, 7, 8, 9, 10, 11, 12, 13, 14, 15, 16, 17, 18, 19, 20, 21, 22, 23, 24, 25, 26, 27, 28, 29, 30, 31, 32, 33, 34, 35, 36, 37, 38, 39, 40, 41, 42, 43, 44, 45, 46, 47, 48, 49, 50, 51, 52, 53, 54, 55, 56, 57, 58, 59, 60, 61, 62, 63, 64, 65] rfl) (hD.sub [0, 1, 2, 3, 4, 5, 6, 7, 8, 9, 10, 11, 12, 13, 14, 15, 16, 17, 18, 19, 20, 21, 22, 23, 24, 25, 26, 27, 28, 29, 30, 31, 32, 33, 34, 35, 36, 37, 38, 39, 40, 41, 42, 43, 44, 45, 46, 47, 48, 49, 50, 51, 52, 53, 54, 55, 56, 57, 58, 59, 60, 61, 62, 63, 64, 65] (by decide) rfl) hS ls (lv_sub hl [1, 2, 3, 4, 0] rfl)
      by_cases w_6_10 : z_5 = 10
      · skip
        subst w_6_10
        refine lv_tableIn (tgt := 540) hx hb dL_law_40 (by decide) (by decide) rfl (by decide) ?_
        have hl : lv_has ls 7 [(0, Value.ref b), (1, Value.ref h0), (2, Value.ref mo), (3, Value.ref qo), (4, Value.int (nI (7 * t)))] := hl
        refine lw_case_540 F hA bo B1 B2 B3 B4 B5 B6 B7 h0 tp rd dr fa ly wy tp1 ln tc tf fk fp va tx rl nx tk sa vl vc fv dr1 dr2 dr3 dr4 dsc dto ec1 ef1 ec2 ef2 ec3 ef3 ec4 ef4 cu rv bt bc ho fe cu1 cu2 cu3 cu4 sc to cc1 cf1 cc2 cf2 cc3 cf3 cc4 cf4 w h q1 q2 q3 q4 q5 q6 cy1 f1 cy2 f2 cy3 f3 cy4 f4 cy5 f5 cy6 f6 bc9 lk ly1 wn ly2 ly3 ly4 on ly5 ab lc1 l1 lc2 l2 lc3 l3 lc4 l4 lc5 l5 wy1 wy2 qd wy3 wy4 cr wc1 s1 wc2 s2 wc3 s3 wc4 s4 mo m_tape lnm s_thrown m_rule m_rules sn m_stair s_readStairs s_fault s_faultPlace wm hm m_low m_high m_crack bcm m_weight m_fire m_crowd m_state m_where s_hours s_fees s_looks m_words s_end s_next s_kind s_which s_place s_read m_told m_breaks m_row m_tried m_steps m_paths y_tape f_tape y_rule f_rule y_rules f_rules y_stair f_stair y_low f_low y_high f_high y_crack f_crack y_weight f_weight y_fire f_fire y_crowd f_crowd y_state f_state y_where f_where y_words y_told f_told y_breaks f_breaks y_row f_row y_tried f_tried y_steps f_steps y_paths f_paths qo yo fo (7 * t) (67 + t) (3176 + 6 * t) us e1 e2 e3 e4 en kk b L xs wt wh P (hK.sub [0, 1, 2, 3, 4, 5, 6, 7, 8, 9, 10, 11, 12, 13, 14, 15, 16, 17, 18, 19, 20, 21, 22, 23, 24, 25, 26, 27, 28, 29, 30, 31, 32, 33, 34, 35, 36, 37, 38, 39, 40, 41, 42, 43, 44, 45] rfl) hXC hXE hXs hbl hbA hlt (fun X_qd_439 X_cr_440 X_s1_441 X_s2_442 X_s3_443 X_s4_444 X_s_thrown_445 X_f_steps_446 X_f_paths_447 h_448 h_449 h_450 h_451 h_452 h_453 h_454 h_455 h_456 h_457 h_458 h_459 h_460 h_461 h_462 h_463 h_464 h_465 h_466 h_467 h_468 h_469 h_470 h_471 h_472 h_473 h_474 h_475 h_476 H locs hP hD hS ls hl => ?_) _  (by omega) (by omega) (by omega) (by omega) (by omega) hst (by omega) (by omega) (by omega) (by omega) i_tf i_fk i_fp i_lo i_hi i_ck i_we i_fi i_cr i_st i_ho i_fe i_CI i_wr i_Kc i_Km i_PB i_lb i_ou (by omega) (by omega) (by omega) (by omega) (Nat.lt_succ_self _) _ _ (hP.sub [0, 1, 2, 3, 4, 5, 6, 7, 8, 9, 10, 11, 12, 13, 14, 15, 16, 17, 18, 19, 20, 21, 22, 23, 24, 25, 26, 27, 28, 29, 30, 31, 32, 33, 34, 35, 36, 37, 38, 39, 40, 41, 42, 43, 44, 45, 46, 47, 48, 49, 50, 51, 52, 53, 54, 55, 56, 57, 58, 59, 60, 61, 62, 63, 64, 65] rfl) (hD.sub [0, 1, 2, 3, 4, 5, 6, 7, 8, 9, 10, 11, 12, 13, 14, 15, 16, 17, 18, 19, 20, 21, 22, 23, 24, 25, 26, 27, 28, 29, 30, 31, 32, 33, 34, 35, 36, 37, 38, 39, 40, 41, 42, 43, 44, 45, 46, 47, 48, 49, 50, 51, 52, 53, 54, 55, 56, 57, 58, 59, 60, 61, 62, 63, 64, 65] (by decide) rfl) hS ls (lv_sub hl [0, 1, 2, 3, 4] rfl)
        have h_448 : ln ≤ 400 := h_448
        have h_449 : bc ≤ 10 := h_449
        have h_450 : w ≤ 10 := h_450
        have h_451 : h ≤ 10 := h_451
        have h_452 : sn ≤ 4 := h_452
        have h_453 : rOK 100 f_stair 24 := h_453
        have h_454 : lnm = ln := h_454
        have h_455 : bcm = bc := h_455
        have h_456 : wm = w := h_456
        have h_457 : hm = h := h_457
        have h_458 : f_tape = tf := h_458
        have h_459 : s_fault = fk := h_459
        have h_460 : s_faultPlace = fp := h_460
        have h_461 : f_low = f1 := h_461
        have h_462 : f_high = f2 := h_462
        have h_463 : f_crack = f5 := h_463
        have h_464 : f_weight = B2 := h_464
        have h_465 : f_fire = B3 := h_465
        have h_466 : f_crowd = B4 := h_466
        have h_467 : f_state = B5 := h_467
        have h_468 : s_hours = ho := h_468
        have h_469 : s_fees = fe := h_469
        have h_470 : CI bc w h B1 B2 B5 B6 B7 f3 f4 wt wh := h_470
        have h_471 : ∀ b, b < bc → B5 b = 1 → f_where b = nI (wh b) := h_471
        have h_472 : Kc P cf1 cf2 cf3 cf4 sc := h_472
        have h_473 : Km P sn f_rule f_stair := h_473
        have h_474 : PB P := h_474
        have h_475 : ∀ c, c < 100 → 0 ≤ (f1 c).toInt ∧ (f1 c).toInt ≤ 99 := h_475
        have h_476 : ∀ c, ¬ (c % 10 < w ∧ c / 10 < h) → f5 c = 0 := h_476
        refine lv_iinc (v := nI (7 * t + 7)) (lv' := [(4, Value.int (nI (7 * t + 7))), (0, Value.ref b), (1, Value.ref h0), (2, Value.ref mo), (3, Value.ref qo)]) hx hb dL_law_683 hl (k := 4) rfl (nI_add (7 * t) 7) (by decide) rfl (fun ls hl => ?_)
        rw [show 7 * t + 7 = 7 * (t + 1) from rfl] at hl
        have hl : lv_has ls 7 [(4, Value.int (nI (7 * (t + 1)))), (0, Value.ref b), (1, Value.ref h0), (2, Value.ref mo), (3, Value.ref qo)] := hl
        refine lv_goto (tgt := 23) hx hb dL_law_686 (by decide) ?_
        refine W.widen (k := 67 + (t + 1)) (n := 3176 + 6 * (t + 1)) (by omega) (by omega) ?_
        exact ih ln tf lnm X_s_thrown_445 f_tape fk fp tx rl nx tk sa vl fv dsc dto ef1 ef2 ef3 ef4 sc to cf1 cf2 cf3 cf4 sn s_readStairs s_fault s_faultPlace s_end s_next s_kind s_which s_place s_read f_stair f_rules f_told f_rule P bc ho fe w h f1 f2 f3 f4 f5 wm hm bcm s_hours s_fees f_low f_high f_crack B1 B2 B3 B4 B5 B6 B7 f_weight f_fire f_crowd f_state wt f_where wh f6 f_breaks lk wn on ab l1 l2 l3 l4 l5 s_looks f_row f_tried X_qd_439 X_cr_440 X_s1_441 X_s2_442 X_s3_443 X_s4_444 X_f_steps_446 X_f_paths_447 fo (t + 1) (by omega) (by omega) (by omega) (by omega) (by omega) h_453 (by omega) (by omega) (by omega) (by omega) h_458 h_459 h_460 h_461 h_462 h_463 h_464 h_465 h_466 h_467 h_468 h_469 h_470 h_471 h_472 h_473 h_474 h_475 h_476 (by omega) (by omega) (by omega) H locs (hP.sub [0, 1, 2, 3, 4, 5, 6, 7, 8, 9, 10, 11, 12, 13, 14, 15, 16, 17, 18, 19, 20, 21, 22, 23, 24, 25, 26, 27, 28, 29, 30, 31, 32, 33, 34, 35, 36, 37, 38, 39, 40, 41, 42, 43, 44, 45, 46, 47, 48, 49, 50, 51, 52, 53, 54, 55, 56, 57, 58, 59, 60, 61, 62, 63, 64, 65] rfl) (hD.sub [0, 1, 2, 3, 4, 5, 6, 7, 8, 9, 10, 11, 12, 13, 14, 15, 16, 17, 18, 19, 20, 21, 22, 23, 24, 25, 26, 27, 28, 29, 30, 31, 32, 33, 34, 35, 36, 37, 38, 39, 40, 41, 42, 43, 44, 45, 46, 47, 48, 49, 50, 51, 52, 53, 54, 55, 56, 57, 58, 59, 60, 61, 62, 63, 64, 65] (by decide) rfl) hS ls (lv_sub hl [1, 2, 3, 4, 0] rfl)
      by_cases w_6_11 : z_5 = 11
      · skip
        subst w_6_11
        refine lv_tableIn (tgt := 553) hx hb dL_law_40 (by decide) (by decide) rfl (by decide) ?_
        have hl : lv_has ls 7 [(0, Value.ref b), (1, Value.ref h0), (2, Value.ref mo), (3, Value.ref qo), (4, Value.int (nI (7 * t)))] := hl
        refine lw_case_553 F hA bo B1 B2 B3 B4 B5 B6 B7 h0 tp rd dr fa ly wy tp1 ln tc tf fk fp va tx rl nx tk sa vl vc fv dr1 dr2 dr3 dr4 dsc dto ec1 ef1 ec2 ef2 ec3 ef3 ec4 ef4 cu rv bt bc ho fe cu1 cu2 cu3 cu4 sc to cc1 cf1 cc2 cf2 cc3 cf3 cc4 cf4 w h q1 q2 q3 q4 q5 q6 cy1 f1 cy2 f2 cy3 f3 cy4 f4 cy5 f5 cy6 f6 bc9 lk ly1 wn ly2 ly3 ly4 on ly5 ab lc1 l1 lc2 l2 lc3 l3 lc4 l4 lc5 l5 wy1 wy2 qd wy3 wy4 cr wc1 s1 wc2 s2 wc3 s3 wc4 s4 mo m_tape lnm s_thrown m_rule m_rules sn m_stair s_readStairs s_fault s_faultPlace wm hm m_low m_high m_crack bcm m_weight m_fire m_crowd m_state m_where s_hours s_fees s_looks m_words s_end s_next s_kind s_which s_place s_read m_told m_breaks m_row m_tried m_steps m_paths y_tape f_tape y_rule f_rule y_rules f_rules y_stair f_stair y_low f_low y_high f_high y_crack f_crack y_weight f_weight y_fire f_fire y_crowd f_crowd y_state f_state y_where f_where y_words y_told f_told y_breaks f_breaks y_row f_row y_tried f_tried y_steps f_steps y_paths f_paths qo yo fo (7 * t) (67 + t) (3176 + 6 * t) us e1 e2 e3 e4 en kk b L xs wt wh P (hK.sub [0, 1, 2, 3, 4, 5, 6, 7, 8, 9, 10, 11, 12, 13, 14, 15, 16, 17, 18, 19, 20, 21, 22, 23, 24, 25, 26, 27, 28, 29, 30, 31, 32, 33, 34, 35, 36, 37, 38, 39, 40, 41, 42, 43, 44, 45] rfl) hXC hXE hXs hbl hbA hlt (fun X_qd_477 X_cr_478 X_s1_479 X_s2_480 X_s3_481 X_s4_482 X_s_thrown_483 X_f_steps_484 X_f_paths_485 h_486 h_487 h_488 h_489 h_490 h_491 h_492 h_493 h_494 h_495 h_496 h_497 h_498 h_499 h_500 h_501 h_502 h_503 h_504 h_505 h_506 h_507 h_508 h_509 h_510 h_511 h_512 h_513 h_514 H locs hP hD hS ls hl => ?_) _  (by omega) (by omega) (by omega) (by omega) (by omega) hst (by omega) (by omega) (by omega) (by omega) i_tf i_fk i_fp i_lo i_hi i_ck i_we i_fi i_cr i_st i_ho i_fe i_CI i_wr i_Kc i_Km i_PB i_lb i_ou (by omega) (by omega) (by omega) (by omega) (Nat.lt_succ_self _) _ _ (hP.sub [0, 1, 2, 3, 4, 5, 6, 7, 8, 9, 10, 11, 12, 13, 14, 15, 16, 17, 18, 19, 20, 21, 22, 23, 24, 25, 26, 27, 28, 29, 30, 31, 32, 33, 34, 35, 36, 37, 38, 39, 40, 41, 42, 43, 44, 45, 46, 47, 48, 49, 50, 51, 52, 53, 54, 55, 56, 57, 58, 59, 60, 61, 62, 63, 64, 65] rfl) (hD.sub [0, 1, 2, 3, 4, 5, 6, 7, 8, 9, 10, 11, 12, 13, 14, 15, 16, 17, 18, 19, 20, 21, 22, 23, 24, 25, 26, 27, 28, 29, 30, 31, 32, 33, 34, 35, 36, 37, 38, 39, 40, 41, 42, 43, 44, 45, 46, 47, 48, 49, 50, 51, 52, 53, 54, 55, 56, 57, 58, 59, 60, 61, 62, 63, 64, 65] (by decide) rfl) hS ls (lv_sub hl [0, 1, 2, 3, 4] rfl)
        have h_486 : ln ≤ 400 := h_486
        have h_487 : bc ≤ 10 := h_487
        have h_488 : w ≤ 10 := h_488
        have h_489 : h ≤ 10 := h_489
        have h_490 : sn ≤ 4 := h_490
        have h_491 : rOK 100 f_stair 24 := h_491
        have h_492 : lnm = ln := h_492
        have h_493 : bcm = bc := h_493
        have h_494 : wm = w := h_494
        have h_495 : hm = h := h_495
        have h_496 : f_tape = tf := h_496
        have h_497 : s_fault = fk := h_497
        have h_498 : s_faultPlace = fp := h_498
        have h_499 : f_low = f1 := h_499
        have h_500 : f_high = f2 := h_500
        have h_501 : f_crack = f5 := h_501
        have h_502 : f_weight = B2 := h_502
        have h_503 : f_fire = B3 := h_503
        have h_504 : f_crowd = B4 := h_504
        have h_505 : f_state = B5 := h_505
        have h_506 : s_hours = ho := h_506
        have h_507 : s_fees = fe := h_507
        have h_508 : CI bc w h B1 B2 B5 B6 B7 f3 f4 wt wh := h_508
        have h_509 : ∀ b, b < bc → B5 b = 1 → f_where b = nI (wh b) := h_509
        have h_510 : Kc P cf1 cf2 cf3 cf4 sc := h_510
        have h_511 : Km P sn f_rule f_stair := h_511
        have h_512 : PB P := h_512
        have h_513 : ∀ c, c < 100 → 0 ≤ (f1 c).toInt ∧ (f1 c).toInt ≤ 99 := h_513
        have h_514 : ∀ c, ¬ (c % 10 < w ∧ c / 10 < h) → f5 c = 0 := h_514
        refine lv_iinc (v := nI (7 * t + 7)) (lv' := [(4, Value.int (nI (7 * t + 7))), (0, Value.ref b), (1, Value.ref h0), (2, Value.ref mo), (3, Value.ref qo)]) hx hb dL_law_683 hl (k := 4) rfl (nI_add (7 * t) 7) (by decide) rfl (fun ls hl => ?_)
        rw [show 7 * t + 7 = 7 * (t + 1) from rfl] at hl
        have hl : lv_has ls 7 [(4, Value.int (nI (7 * (t + 1)))), (0, Value.ref b), (1, Value.ref h0), (2, Value.ref mo), (3, Value.ref qo)] := hl
        refine lv_goto (tgt := 23) hx hb dL_law_686 (by decide) ?_
        refine W.widen (k := 67 + (t + 1)) (n := 3176 + 6 * (t + 1)) (by omega) (by omega) ?_
        exact ih ln tf lnm X_s_thrown_483 f_tape fk fp tx rl nx tk sa vl fv dsc dto ef1 ef2 ef3 ef4 sc to cf1 cf2 cf3 cf4 sn s_readStairs s_fault s_faultPlace s_end s_next s_kind s_which s_place s_read f_stair f_rules f_told f_rule P bc ho fe w h f1 f2 f3 f4 f5 wm hm bcm s_hours s_fees f_low f_high f_crack B1 B2 B3 B4 B5 B6 B7 f_weight f_fire f_crowd f_state wt f_where wh f6 f_breaks lk wn on ab l1 l2 l3 l4 l5 s_looks f_row f_tried X_qd_477 X_cr_478 X_s1_479 X_s2_480 X_s3_481 X_s4_482 X_f_steps_484 X_f_paths_485 fo (t + 1) (by omega) (by omega) (by omega) (by omega) (by omega) h_491 (by omega) (by omega) (by omega) (by omega) h_496 h_497 h_498 h_499 h_500 h_501 h_502 h_503 h_504 h_505 h_506 h_507 h_508 h_509 h_510 h_511 h_512 h_513 h_514 (by omega) (by omega) (by omega) H locs (hP.sub [0, 1, 2, 3, 4, 5, 6, 7, 8, 9, 10, 11, 12, 13, 14, 15, 16, 17, 18, 19, 20, 21, 22, 23, 24, 25, 26, 27, 28, 29, 30, 31, 32, 33, 34, 35, 36, 37, 38, 39, 40, 41, 42, 43, 44, 45, 46, 47, 48, 49, 50, 51, 52, 53, 54, 55, 56, 57, 58, 59, 60, 61, 62, 63, 64, 65] rfl) (hD.sub [0, 1, 2, 3, 4, 5, 6, 7, 8, 9, 10, 11, 12, 13, 14, 15, 16, 17, 18, 19, 20, 21, 22, 23, 24, 25, 26, 27, 28, 29, 30, 31, 32, 33, 34, 35, 36, 37, 38, 39, 40, 41, 42, 43, 44, 45, 46, 47, 48, 49, 50, 51, 52, 53, 54, 55, 56, 57, 58, 59, 60, 61, 62, 63, 64, 65] (by decide) rfl) hS ls (lv_sub hl [1, 2, 3, 4, 0] rfl)
      by_cases w_6_12 : z_5 = 12
      · skip
        subst w_6_12
        refine lv_tableIn (tgt := 566) hx hb dL_law_40 (by decide) (by decide) rfl (by decide) ?_
        have hl : lv_has ls 7 [(0, Value.ref b), (1, Value.ref h0), (2, Value.ref mo), (3, Value.ref qo), (4, Value.int (nI (7 * t)))] := hl
        refine lw_case_566 F hA bo B1 B2 B3 B4 B5 B6 B7 h0 tp rd dr fa ly wy tp1 ln tc tf fk fp va tx rl nx tk sa vl vc fv dr1 dr2 dr3 dr4 dsc dto ec1 ef1 ec2 ef2 ec3 ef3 ec4 ef4 cu rv bt bc ho fe cu1 cu2 cu3 cu4 sc to cc1 cf1 cc2 cf2 cc3 cf3 cc4 cf4 w h q1 q2 q3 q4 q5 q6 cy1 f1 cy2 f2 cy3 f3 cy4 f4 cy5 f5 cy6 f6 bc9 lk ly1 wn ly2 ly3 ly4 on ly5 ab lc1 l1 lc2 l2 lc3 l3 lc4 l4 lc5 l5 wy1 wy2 qd wy3 wy4 cr wc1 s1 wc2 s2 wc3 s3 wc4 s4 mo m_tape lnm s_thrown m_rule m_rules sn m_stair s_readStairs s_fault s_faultPlace wm hm m_low m_high m_crack bcm m_weight m_fire m_crowd m_state m_where s_hours s_fees s_looks m_words s_end s_next s_kind s_which s_place s_read m_told m_breaks m_row m_tried m_steps m_paths y_tape f_tape y_rule f_rule y_rules f_rules y_stair f_stair y_low f_low y_high f_high y_crack f_crack y_weight f_weight y_fire f_fire y_crowd f_crowd y_state f_state y_where f_where y_words y_told f_told y_breaks f_breaks y_row f_row y_tried f_tried y_steps f_steps y_paths f_paths qo yo fo (7 * t) (67 + t) (3176 + 6 * t) us e1 e2 e3 e4 en kk b L xs wt wh P (hK.sub [0, 1, 2, 3, 4, 5, 6, 7, 8, 9, 10, 11, 12, 13, 14, 15, 16, 17, 18, 19, 20, 21, 22, 23, 24, 25, 26, 27, 28, 29, 30, 31, 32, 33, 34, 35, 36, 37, 38, 39, 40, 41, 42, 43, 44, 45] rfl) hXC hXE hXs hbl hbA hlt (fun X_fo_515 X_s_thrown_516 h_517 h_518 h_519 h_520 h_521 h_522 h_523 h_524 h_525 h_526 h_527 h_528 h_529 h_530 h_531 h_532 h_533 h_534 h_535 h_536 h_537 h_538 h_539 h_540 h_541 h_542 h_543 h_544 h_545 H locs hP hD hS ls hl => ?_) _  (by omega) (by omega) (by omega) (by omega) (by omega) hst (by omega) (by omega) (by omega) (by omega) i_tf i_fk i_fp i_lo i_hi i_ck i_we i_fi i_cr i_st i_ho i_fe i_CI i_wr i_Kc i_Km i_PB i_lb i_ou (by omega) (by omega) (by omega) (by omega) (Nat.lt_succ_self _) _ _ (hP.sub [0, 1, 2, 3, 4, 5, 6, 7, 8, 9, 10, 11, 12, 13, 14, 15, 16, 17, 18, 19, 20, 21, 22, 23, 24, 25, 26, 27, 28, 29, 30, 31, 32, 33, 34, 35, 36, 37, 38, 39, 40, 41, 42, 43, 44, 45, 46, 47, 48, 49, 50, 51, 52, 53, 54, 55, 56, 57, 58, 59, 60, 61, 62, 63, 64, 65] rfl) (hD.sub [0, 1, 2, 3, 4, 5, 6, 7, 8, 9, 10, 11, 12, 13, 14, 15, 16, 17, 18, 19, 20, 21, 22, 23, 24, 25, 26, 27, 28, 29, 30, 31, 32, 33, 34, 35, 36, 37, 38, 39, 40, 41, 42, 43, 44, 45, 46, 47, 48, 49, 50, 51, 52, 53, 54, 55, 56, 57, 58, 59, 60, 61, 62, 63, 64, 65] (by decide) rfl) hS ls (lv_sub hl [0, 1, 2, 3, 4] rfl)
        have h_517 : ln ≤ 400 := h_517
        have h_518 : bc ≤ 10 := h_518
        have h_519 : w ≤ 10 := h_519
        have h_520 : h ≤ 10 := h_520
        have h_521 : sn ≤ 4 := h_521
        have h_522 : rOK 100 f_stair 24 := h_522
        have h_523 : lnm = ln := h_523
        have h_524 : bcm = bc := h_524
        have h_525 : wm = w := h_525
        have h_526 : hm = h := h_526
        have h_527 : f_tape = tf := h_527
        have h_528 : s_fault = fk := h_528
        have h_529 : s_faultPlace = fp := h_529
        have h_530 : f_low = f1 := h_530
        have h_531 : f_high = f2 := h_531
        have h_532 : f_crack = f5 := h_532
        have h_533 : f_weight = B2 := h_533
        have h_534 : f_fire = B3 := h_534
        have h_535 : f_crowd = B4 := h_535
        have h_536 : f_state = B5 := h_536
        have h_537 : s_hours = ho := h_537
        have h_538 : s_fees = fe := h_538
        have h_539 : CI bc w h B1 B2 B5 B6 B7 f3 f4 wt wh := h_539
        have h_540 : ∀ b, b < bc → B5 b = 1 → f_where b = nI (wh b) := h_540
        have h_541 : Kc P cf1 cf2 cf3 cf4 sc := h_541
        have h_542 : Km P sn f_rule f_stair := h_542
        have h_543 : PB P := h_543
        have h_544 : ∀ c, c < 100 → 0 ≤ (f1 c).toInt ∧ (f1 c).toInt ≤ 99 := h_544
        have h_545 : ∀ c, ¬ (c % 10 < w ∧ c / 10 < h) → f5 c = 0 := h_545
        refine lv_iinc (v := nI (7 * t + 7)) (lv' := [(4, Value.int (nI (7 * t + 7))), (0, Value.ref b), (1, Value.ref h0), (2, Value.ref mo), (3, Value.ref qo)]) hx hb dL_law_683 hl (k := 4) rfl (nI_add (7 * t) 7) (by decide) rfl (fun ls hl => ?_)
        rw [show 7 * t + 7 = 7 * (t + 1) from rfl] at hl
        have hl : lv_has ls 7 [(4, Value.int (nI (7 * (t + 1)))), (0, Value.ref b), (1, Value.ref h0), (2, Value.ref mo), (3, Value.ref qo)] := hl
        refine lv_goto (tgt := 23) hx hb dL_law_686 (by decide) ?_
        refine W.widen (k := 67 + (t + 1)) (n := 3176 + 6 * (t + 1)) (by omega) (by omega) ?_
        exact ih ln tf lnm X_s_thrown_516 f_tape fk fp tx rl nx tk sa vl fv dsc dto ef1 ef2 ef3 ef4 sc to cf1 cf2 cf3 cf4 sn s_readStairs s_fault s_faultPlace s_end s_next s_kind s_which s_place s_read f_stair f_rules f_told f_rule P bc ho fe w h f1 f2 f3 f4 f5 wm hm bcm s_hours s_fees f_low f_high f_crack B1 B2 B3 B4 B5 B6 B7 f_weight f_fire f_crowd f_state wt f_where wh f6 f_breaks lk wn on ab l1 l2 l3 l4 l5 s_looks f_row f_tried qd cr s1 s2 s3 s4 f_steps f_paths X_fo_515 (t + 1) (by omega) (by omega) (by omega) (by omega) (by omega) h_522 (by omega) (by omega) (by omega) (by omega) h_527 h_528 h_529 h_530 h_531 h_532 h_533 h_534 h_535 h_536 h_537 h_538 h_539 h_540 h_541 h_542 h_543 h_544 h_545 (by omega) (by omega) (by omega) H locs (hP.sub [0, 1, 2, 3, 4, 5, 6, 7, 8, 9, 10, 11, 12, 13, 14, 15, 16, 17, 18, 19, 20, 21, 22, 23, 24, 25, 26, 27, 28, 29, 30, 31, 32, 33, 34, 35, 36, 37, 38, 39, 40, 41, 42, 43, 44, 45, 46, 47, 48, 49, 50, 51, 52, 53, 54, 55, 56, 57, 58, 59, 60, 61, 62, 63, 64, 65] rfl) (hD.sub [0, 1, 2, 3, 4, 5, 6, 7, 8, 9, 10, 11, 12, 13, 14, 15, 16, 17, 18, 19, 20, 21, 22, 23, 24, 25, 26, 27, 28, 29, 30, 31, 32, 33, 34, 35, 36, 37, 38, 39, 40, 41, 42, 43, 44, 45, 46, 47, 48, 49, 50, 51, 52, 53, 54, 55, 56, 57, 58, 59, 60, 61, 62, 63, 64, 65] (by decide) rfl) hS ls (lv_sub hl [1, 2, 3, 4, 0] rfl)
      by_cases w_6_13 : z_5 = 13
      · skip
        subst w_6_13
        refine lv_tableIn (tgt := 618) hx hb dL_law_40 (by decide) (by decide) rfl (by decide) ?_
        have hl : lv_has ls 7 [(0, Value.ref b), (1, Value.ref h0), (2, Value.ref mo), (3, Value.ref qo), (4, Value.int (nI (7 * t)))] := hl
        refine lw_case_618 F hA bo B1 B2 B3 B4 B5 B6 B7 h0 tp rd dr fa ly wy tp1 ln tc tf fk fp va tx rl nx tk sa vl vc fv dr1 dr2 dr3 dr4 dsc dto ec1 ef1 ec2 ef2 ec3 ef3 ec4 ef4 cu rv bt bc ho fe cu1 cu2 cu3 cu4 sc to cc1 cf1 cc2 cf2 cc3 cf3 cc4 cf4 w h q1 q2 q3 q4 q5 q6 cy1 f1 cy2 f2 cy3 f3 cy4 f4 cy5 f5 cy6 f6 bc9 lk ly1 wn ly2 ly3 ly4 on ly5 ab lc1 l1 lc2 l2 lc3 l3 lc4 l4 lc5 l5 wy1 wy2 qd wy3 wy4 cr wc1 s1 wc2 s2 wc3 s3 wc4 s4 mo m_tape lnm s_thrown m_rule m_rules sn m_stair s_readStairs s_fault s_faultPlace wm hm m_low m_high m_crack bcm m_weight m_fire m_crowd m_state m_where s_hours s_fees s_looks m_words s_end s_next s_kind s_which s_place s_read m_told m_breaks m_row m_tried m_steps m_paths y_tape f_tape y_rule f_rule y_rules f_rules y_stair f_stair y_low f_low y_high f_high y_crack f_crack y_weight f_weight y_fire f_fire y_crowd f_crowd y_state f_state y_where f_where y_words y_told f_told y_breaks f_breaks y_row f_row y_tried f_tried y_steps f_steps y_paths f_paths qo yo fo (7 * t) (67 + t) (3176 + 6 * t) us e1 e2 e3 e4 en kk b L xs wt wh P (hK.sub [0, 1, 2, 3, 4, 5, 6, 7, 8, 9, 10, 11, 12, 13, 14, 15, 16, 17, 18, 19, 20, 21, 22, 23, 24, 25, 26, 27, 28, 29, 30, 31, 32, 33, 34, 35, 36, 37, 38, 39, 40, 41, 42, 43, 44, 45] rfl) hXC hXE hXs hbl hbA hlt (fun X_qd_546 X_cr_547 X_s1_548 X_s2_549 X_s3_550 X_s4_551 X_fo_552 X_s_thrown_553 X_f_steps_554 X_f_paths_555 h_556 h_557 h_558 h_559 h_560 h_561 h_562 h_563 h_564 h_565 h_566 h_567 h_568 h_569 h_570 h_571 h_572 h_573 h_574 h_575 h_576 h_577 h_578 h_579 h_580 h_581 h_582 h_583 h_584 H locs hP hD hS ls hl => ?_) _  (by omega) (by omega) (by omega) (by omega) (by omega) hst (by omega) (by omega) (by omega) (by omega) i_tf i_fk i_fp i_lo i_hi i_ck i_we i_fi i_cr i_st i_ho i_fe i_CI i_wr i_Kc i_Km i_PB i_lb i_ou (by omega) (by omega) (by omega) (by omega) (Nat.lt_succ_self _) _ _ (hP.sub [0, 1, 2, 3, 4, 5, 6, 7, 8, 9, 10, 11, 12, 13, 14, 15, 16, 17, 18, 19, 20, 21, 22, 23, 24, 25, 26, 27, 28, 29, 30, 31, 32, 33, 34, 35, 36, 37, 38, 39, 40, 41, 42, 43, 44, 45, 46, 47, 48, 49, 50, 51, 52, 53, 54, 55, 56, 57, 58, 59, 60, 61, 62, 63, 64, 65] rfl) (hD.sub [0, 1, 2, 3, 4, 5, 6, 7, 8, 9, 10, 11, 12, 13, 14, 15, 16, 17, 18, 19, 20, 21, 22, 23, 24, 25, 26, 27, 28, 29, 30, 31, 32, 33, 34, 35, 36, 37, 38, 39, 40, 41, 42, 43, 44, 45, 46, 47, 48, 49, 50, 51, 52, 53, 54, 55, 56, 57, 58, 59, 60, 61, 62, 63, 64, 65] (by decide) rfl) hS ls (lv_sub hl [0, 1, 2, 3, 4] rfl)
        have h_556 : ln ≤ 400 := h_556
        have h_557 : bc ≤ 10 := h_557
        have h_558 : w ≤ 10 := h_558
        have h_559 : h ≤ 10 := h_559
        have h_560 : sn ≤ 4 := h_560
        have h_561 : rOK 100 f_stair 24 := h_561
        have h_562 : lnm = ln := h_562
        have h_563 : bcm = bc := h_563
        have h_564 : wm = w := h_564
        have h_565 : hm = h := h_565
        have h_566 : f_tape = tf := h_566
        have h_567 : s_fault = fk := h_567
        have h_568 : s_faultPlace = fp := h_568
        have h_569 : f_low = f1 := h_569
        have h_570 : f_high = f2 := h_570
        have h_571 : f_crack = f5 := h_571
        have h_572 : f_weight = B2 := h_572
        have h_573 : f_fire = B3 := h_573
        have h_574 : f_crowd = B4 := h_574
        have h_575 : f_state = B5 := h_575
        have h_576 : s_hours = ho := h_576
        have h_577 : s_fees = fe := h_577
        have h_578 : CI bc w h B1 B2 B5 B6 B7 f3 f4 wt wh := h_578
        have h_579 : ∀ b, b < bc → B5 b = 1 → f_where b = nI (wh b) := h_579
        have h_580 : Kc P cf1 cf2 cf3 cf4 sc := h_580
        have h_581 : Km P sn f_rule f_stair := h_581
        have h_582 : PB P := h_582
        have h_583 : ∀ c, c < 100 → 0 ≤ (f1 c).toInt ∧ (f1 c).toInt ≤ 99 := h_583
        have h_584 : ∀ c, ¬ (c % 10 < w ∧ c / 10 < h) → f5 c = 0 := h_584
        refine lv_iinc (v := nI (7 * t + 7)) (lv' := [(4, Value.int (nI (7 * t + 7))), (0, Value.ref b), (1, Value.ref h0), (2, Value.ref mo), (3, Value.ref qo)]) hx hb dL_law_683 hl (k := 4) rfl (nI_add (7 * t) 7) (by decide) rfl (fun ls hl => ?_)
        rw [show 7 * t + 7 = 7 * (t + 1) from rfl] at hl
        have hl : lv_has ls 7 [(4, Value.int (nI (7 * (t + 1)))), (0, Value.ref b), (1, Value.ref h0), (2, Value.ref mo), (3, Value.ref qo)] := hl
        refine lv_goto (tgt := 23) hx hb dL_law_686 (by decide) ?_
        refine W.widen (k := 67 + (t + 1)) (n := 3176 + 6 * (t + 1)) (by omega) (by omega) ?_
        exact ih ln tf lnm X_s_thrown_553 f_tape fk fp tx rl nx tk sa vl fv dsc dto ef1 ef2 ef3 ef4 sc to cf1 cf2 cf3 cf4 sn s_readStairs s_fault s_faultPlace s_end s_next s_kind s_which s_place s_read f_stair f_rules f_told f_rule P bc ho fe w h f1 f2 f3 f4 f5 wm hm bcm s_hours s_fees f_low f_high f_crack B1 B2 B3 B4 B5 B6 B7 f_weight f_fire f_crowd f_state wt f_where wh f6 f_breaks lk wn on ab l1 l2 l3 l4 l5 s_looks f_row f_tried X_qd_546 X_cr_547 X_s1_548 X_s2_549 X_s3_550 X_s4_551 X_f_steps_554 X_f_paths_555 X_fo_552 (t + 1) (by omega) (by omega) (by omega) (by omega) (by omega) h_561 (by omega) (by omega) (by omega) (by omega) h_566 h_567 h_568 h_569 h_570 h_571 h_572 h_573 h_574 h_575 h_576 h_577 h_578 h_579 h_580 h_581 h_582 h_583 h_584 (by omega) (by omega) (by omega) H locs (hP.sub [0, 1, 2, 3, 4, 5, 6, 7, 8, 9, 10, 11, 12, 13, 14, 15, 16, 17, 18, 19, 20, 21, 22, 23, 24, 25, 26, 27, 28, 29, 30, 31, 32, 33, 34, 35, 36, 37, 38, 39, 40, 41, 42, 43, 44, 45, 46, 47, 48, 49, 50, 51, 52, 53, 54, 55, 56, 57, 58, 59, 60, 61, 62, 63, 64, 65] rfl) (hD.sub [0, 1, 2, 3, 4, 5, 6, 7, 8, 9, 10, 11, 12, 13, 14, 15, 16, 17, 18, 19, 20, 21, 22, 23, 24, 25, 26, 27, 28, 29, 30, 31, 32, 33, 34, 35, 36, 37, 38, 39, 40, 41, 42, 43, 44, 45, 46, 47, 48, 49, 50, 51, 52, 53, 54, 55, 56, 57, 58, 59, 60, 61, 62, 63, 64, 65] (by decide) rfl) hS ls (lv_sub hl [1, 2, 3, 4, 0] rfl)
      by_cases w_6_14 : z_5 = 14
      · skip
        subst w_6_14
        refine lv_tableIn (tgt := 658) hx hb dL_law_40 (by decide) (by decide) rfl (by decide) ?_
        have hl : lv_has ls 7 [(0, Value.ref b), (1, Value.ref h0), (2, Value.ref mo), (3, Value.ref qo), (4, Value.int (nI (7 * t)))] := hl
        refine lw_case_658 F hA bo B1 B2 B3 B4 B5 B6 B7 h0 tp rd dr fa ly wy tp1 ln tc tf fk fp va tx rl nx tk sa vl vc fv dr1 dr2 dr3 dr4 dsc dto ec1 ef1 ec2 ef2 ec3 ef3 ec4 ef4 cu rv bt bc ho fe cu1 cu2 cu3 cu4 sc to cc1 cf1 cc2 cf2 cc3 cf3 cc4 cf4 w h q1 q2 q3 q4 q5 q6 cy1 f1 cy2 f2 cy3 f3 cy4 f4 cy5 f5 cy6 f6 bc9 lk ly1 wn ly2 ly3 ly4 on ly5 ab lc1 l1 lc2 l2 lc3 l3 lc4 l4 lc5 l5 wy1 wy2 qd wy3 wy4 cr wc1 s1 wc2 s2 wc3 s3 wc4 s4 mo m_tape lnm s_thrown m_rule m_rules sn m_stair s_readStairs s_fault s_faultPlace wm hm m_low m_high m_crack bcm m_weight m_fire m_crowd m_state m_where s_hours s_fees s_looks m_words s_end s_next s_kind s_which s_place s_read m_told m_breaks m_row m_tried m_steps m_paths y_tape f_tape y_rule f_rule y_rules f_rules y_stair f_stair y_low f_low y_high f_high y_crack f_crack y_weight f_weight y_fire f_fire y_crowd f_crowd y_state f_state y_where f_where y_words y_told f_told y_breaks f_breaks y_row f_row y_tried f_tried y_steps f_steps y_paths f_paths qo yo fo (7 * t) (67 + t) (3176 + 6 * t) us e1 e2 e3 e4 en kk b L xs wt wh P (hK.sub [0, 1, 2, 3, 4, 5, 6, 7, 8, 9, 10, 11, 12, 13, 14, 15, 16, 17, 18, 19, 20, 21, 22, 23, 24, 25, 26, 27, 28, 29, 30, 31, 32, 33, 34, 35, 36, 37, 38, 39, 40, 41, 42, 43, 44, 45] rfl) hXC hXE hXs hbl hbA hlt (fun X_s_thrown_585 h_586 h_587 h_588 h_589 h_590 h_591 h_592 h_593 h_594 h_595 h_596 h_597 h_598 h_599 h_600 h_601 h_602 h_603 h_604 h_605 h_606 h_607 h_608 h_609 h_610 h_611 h_612 h_613 h_614 H locs hP hD hS ls hl => ?_) _  (by omega) (by omega) (by omega) (by omega) (by omega) hst (by omega) (by omega) (by omega) (by omega) i_tf i_fk i_fp i_lo i_hi i_ck i_we i_fi i_cr i_st i_ho i_fe i_CI i_wr i_Kc i_Km i_PB i_lb i_ou (by omega) (by omega) (by omega) (by omega) (Nat.lt_succ_self _) _ _ (hP.sub [0, 1, 2, 3, 4, 5, 6, 7, 8, 9, 10, 11, 12, 13, 14, 15, 16, 17, 18, 19, 20, 21, 22, 23, 24, 25, 26, 27, 28, 29, 30, 31, 32, 33, 34, 35, 36, 37, 38, 39, 40, 41, 42, 43, 44, 45, 46, 47, 48, 49, 50, 51, 52, 53, 54, 55, 56, 57, 58, 59, 60, 61, 62, 63, 64, 65] rfl) (hD.sub [0, 1, 2, 3, 4, 5, 6, 7, 8, 9, 10, 11, 12, 13, 14, 15, 16, 17, 18, 19, 20, 21, 22, 23, 24, 25, 26, 27, 28, 29, 30, 31, 32, 33, 34, 35, 36, 37, 38, 39, 40, 41, 42, 43, 44, 45, 46, 47, 48, 49, 50, 51, 52, 53, 54, 55, 56, 57, 58, 59, 60, 61, 62, 63, 64, 65] (by decide) rfl) hS ls (lv_sub hl [0, 1, 2, 3, 4] rfl)
        have h_586 : ln ≤ 400 := h_586
        have h_587 : bc ≤ 10 := h_587
        have h_588 : w ≤ 10 := h_588
        have h_589 : h ≤ 10 := h_589
        have h_590 : sn ≤ 4 := h_590
        have h_591 : rOK 100 f_stair 24 := h_591
        have h_592 : lnm = ln := h_592
        have h_593 : bcm = bc := h_593
        have h_594 : wm = w := h_594
        have h_595 : hm = h := h_595
        have h_596 : f_tape = tf := h_596
        have h_597 : s_fault = fk := h_597
        have h_598 : s_faultPlace = fp := h_598
        have h_599 : f_low = f1 := h_599
        have h_600 : f_high = f2 := h_600
        have h_601 : f_crack = f5 := h_601
        have h_602 : f_weight = B2 := h_602
        have h_603 : f_fire = B3 := h_603
        have h_604 : f_crowd = B4 := h_604
        have h_605 : f_state = B5 := h_605
        have h_606 : s_hours = ho := h_606
        have h_607 : s_fees = fe := h_607
        have h_608 : CI bc w h B1 B2 B5 B6 B7 f3 f4 wt wh := h_608
        have h_609 : ∀ b, b < bc → B5 b = 1 → f_where b = nI (wh b) := h_609
        have h_610 : Kc P cf1 cf2 cf3 cf4 sc := h_610
        have h_611 : Km P sn f_rule f_stair := h_611
        have h_612 : PB P := h_612
        have h_613 : ∀ c, c < 100 → 0 ≤ (f1 c).toInt ∧ (f1 c).toInt ≤ 99 := h_613
        have h_614 : ∀ c, ¬ (c % 10 < w ∧ c / 10 < h) → f5 c = 0 := h_614
        refine lv_iinc (v := nI (7 * t + 7)) (lv' := [(4, Value.int (nI (7 * t + 7))), (0, Value.ref b), (1, Value.ref h0), (2, Value.ref mo), (3, Value.ref qo)]) hx hb dL_law_683 hl (k := 4) rfl (nI_add (7 * t) 7) (by decide) rfl (fun ls hl => ?_)
        rw [show 7 * t + 7 = 7 * (t + 1) from rfl] at hl
        have hl : lv_has ls 7 [(4, Value.int (nI (7 * (t + 1)))), (0, Value.ref b), (1, Value.ref h0), (2, Value.ref mo), (3, Value.ref qo)] := hl
        refine lv_goto (tgt := 23) hx hb dL_law_686 (by decide) ?_
        refine W.widen (k := 67 + (t + 1)) (n := 3176 + 6 * (t + 1)) (by omega) (by omega) ?_
        exact ih ln tf lnm X_s_thrown_585 f_tape fk fp tx rl nx tk sa vl fv dsc dto ef1 ef2 ef3 ef4 sc to cf1 cf2 cf3 cf4 sn s_readStairs s_fault s_faultPlace s_end s_next s_kind s_which s_place s_read f_stair f_rules f_told f_rule P bc ho fe w h f1 f2 f3 f4 f5 wm hm bcm s_hours s_fees f_low f_high f_crack B1 B2 B3 B4 B5 B6 B7 f_weight f_fire f_crowd f_state wt f_where wh f6 f_breaks lk wn on ab l1 l2 l3 l4 l5 s_looks f_row f_tried qd cr s1 s2 s3 s4 f_steps f_paths fo (t + 1) (by omega) (by omega) (by omega) (by omega) (by omega) h_591 (by omega) (by omega) (by omega) (by omega) h_596 h_597 h_598 h_599 h_600 h_601 h_602 h_603 h_604 h_605 h_606 h_607 h_608 h_609 h_610 h_611 h_612 h_613 h_614 (by omega) (by omega) (by omega) H locs (hP.sub [0, 1, 2, 3, 4, 5, 6, 7, 8, 9, 10, 11, 12, 13, 14, 15, 16, 17, 18, 19, 20, 21, 22, 23, 24, 25, 26, 27, 28, 29, 30, 31, 32, 33, 34, 35, 36, 37, 38, 39, 40, 41, 42, 43, 44, 45, 46, 47, 48, 49, 50, 51, 52, 53, 54, 55, 56, 57, 58, 59, 60, 61, 62, 63, 64, 65] rfl) (hD.sub [0, 1, 2, 3, 4, 5, 6, 7, 8, 9, 10, 11, 12, 13, 14, 15, 16, 17, 18, 19, 20, 21, 22, 23, 24, 25, 26, 27, 28, 29, 30, 31, 32, 33, 34, 35, 36, 37, 38, 39, 40, 41, 42, 43, 44, 45, 46, 47, 48, 49, 50, 51, 52, 53, 54, 55, 56, 57, 58, 59, 60, 61, 62, 63, 64, 65] (by decide) rfl) hS ls (lv_sub hl [1, 2, 3, 4, 0] rfl)
      refine lv_tableOut (tgt := 683) hx hb dL_law_40 (m_out z_5 (by decide) (by decide) (fun j h1 h2 => ?_)) (by decide) ?_
      · skip
        rcases (show j = 0 ∨ j = 1 ∨ j = 2 ∨ j = 3 ∨ j = 4 ∨ j = 5 ∨ j = 6 ∨ j = 7 ∨ j = 8 ∨ j = 9 ∨ j = 10 ∨ j = 11 ∨ j = 12 ∨ j = 13 ∨ j = 14 by omega) with rfl | rfl | rfl | rfl | rfl | rfl | rfl | rfl | rfl | rfl | rfl | rfl | rfl | rfl | rfl
        · exact w_6_0
        · exact w_6_1
        · exact w_6_2
        · exact w_6_3
        · exact w_6_4
        · exact w_6_5
        · exact w_6_6
        · exact w_6_7
        · exact w_6_8
        · exact w_6_9
        · exact w_6_10
        · exact w_6_11
        · exact w_6_12
        · exact w_6_13
        · exact w_6_14
      refine lv_iinc (v := nI (7 * t + 7)) (lv' := [(4, Value.int (nI (7 * t + 7))), (0, Value.ref b), (1, Value.ref h0), (2, Value.ref mo), (3, Value.ref qo)]) hx hb dL_law_683 hl (k := 4) rfl (nI_add (7 * t) 7) (by decide) rfl (fun ls hl => ?_)
      rw [show 7 * t + 7 = 7 * (t + 1) from rfl] at hl
      have hl : lv_has ls 7 [(4, Value.int (nI (7 * (t + 1)))), (0, Value.ref b), (1, Value.ref h0), (2, Value.ref mo), (3, Value.ref qo)] := hl
      refine lv_goto (tgt := 23) hx hb dL_law_686 (by decide) ?_
      refine W.widen (k := 67 + (t + 1)) (n := 3176 + 6 * (t + 1)) (by omega) (by omega) ?_
      exact ih ln tf lnm s_thrown f_tape fk fp tx rl nx tk sa vl fv dsc dto ef1 ef2 ef3 ef4 sc to cf1 cf2 cf3 cf4 sn s_readStairs s_fault s_faultPlace s_end s_next s_kind s_which s_place s_read f_stair f_rules f_told f_rule P bc ho fe w h f1 f2 f3 f4 f5 wm hm bcm s_hours s_fees f_low f_high f_crack B1 B2 B3 B4 B5 B6 B7 f_weight f_fire f_crowd f_state wt f_where wh f6 f_breaks lk wn on ab l1 l2 l3 l4 l5 s_looks f_row f_tried qd cr s1 s2 s3 s4 f_steps f_paths fo (t + 1) (by omega) (by omega) (by omega) (by omega) (by omega) hst (by omega) (by omega) (by omega) (by omega) i_tf i_fk i_fp i_lo i_hi i_ck i_we i_fi i_cr i_st i_ho i_fe i_CI i_wr i_Kc i_Km i_PB i_lb i_ou (by omega) (by omega) (by omega) H locs (hP.sub [0, 1, 2, 3, 4, 5, 6, 7, 8, 9, 10, 11, 12, 13, 14, 15, 16, 17, 18, 19, 20, 21, 22, 23, 24, 25, 26, 27, 28, 29, 30, 31, 32, 33, 34, 35, 36, 37, 38, 39, 40, 41, 42, 43, 44, 45, 46, 47, 48, 49, 50, 51, 52, 53, 54, 55, 56, 57, 58, 59, 60, 61, 62, 63, 64, 65] rfl) (hD.sub [0, 1, 2, 3, 4, 5, 6, 7, 8, 9, 10, 11, 12, 13, 14, 15, 16, 17, 18, 19, 20, 21, 22, 23, 24, 25, 26, 27, 28, 29, 30, 31, 32, 33, 34, 35, 36, 37, 38, 39, 40, 41, 42, 43, 44, 45, 46, 47, 48, 49, 50, 51, 52, 53, 54, 55, 56, 57, 58, 59, 60, 61, 62, 63, 64, 65] (by decide) rfl) hS ls (lv_sub hl [1, 2, 3, 4, 0] rfl)
