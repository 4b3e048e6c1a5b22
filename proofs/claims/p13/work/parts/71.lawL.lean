set_option maxHeartbeats 4000000 in
set_option maxRecDepth 100000 in
theorem lw_loop {p : Program} {l : Launch} {e : Env} {s : State} {m : MethodId} {args : Array Value} {below : List Frame} {meth : Method} {c : Code} {Q : State → Prop} {A : Nat → Prop} {D : va_G} (F : mFix p s m args c cL_law 7 RL) (hA : ∀ q, s.heap.size ≤ q → A q) (bo : Nat → Nat) (h0 : Nat) (tp : Nat) (rd : Nat) (dr : Nat) (fa : Nat) (ly : Nat) (wy : Nat) (tp1 : Nat) (tc : ClassId) (va : Nat) (vc : ClassId) (dr1 : Nat) (dr2 : Nat) (dr3 : Nat) (dr4 : Nat) (ec1 : ClassId) (ec2 : ClassId) (ec3 : ClassId) (ec4 : ClassId) (cu : Nat) (rv : Nat) (bt : Nat) (cu1 : Nat) (cu2 : Nat) (cu3 : Nat) (cu4 : Nat) (cc1 : ClassId) (cc2 : ClassId) (cc3 : ClassId) (cc4 : ClassId) (q1 : Nat) (q2 : Nat) (q3 : Nat) (q4 : Nat) (q5 : Nat) (q6 : Nat) (cy1 : ClassId) (cy2 : ClassId) (cy3 : ClassId) (cy4 : ClassId) (cy5 : ClassId) (cy6 : ClassId) (bc9 : ClassId) (ly1 : Nat) (ly2 : Nat) (ly3 : Nat) (ly4 : Nat) (ly5 : Nat) (lc1 : ClassId) (lc2 : ClassId) (lc3 : ClassId) (lc4 : ClassId) (lc5 : ClassId) (wy1 : Nat) (wy2 : Nat) (wy3 : Nat) (wy4 : Nat) (wc1 : ClassId) (wc2 : ClassId) (wc3 : ClassId) (wc4 : ClassId) (mo : Nat) (m_tape : Nat) (m_rule : Nat) (m_rules : Nat) (m_stair : Nat) (m_low : Nat) (m_high : Nat) (m_crack : Nat) (m_weight : Nat) (m_fire : Nat) (m_crowd : Nat) (m_state : Nat) (m_where : Nat) (m_words : Nat) (m_told : Nat) (m_breaks : Nat) (m_row : Nat) (m_tried : Nat) (m_steps : Nat) (m_paths : Nat) (y_tape : ClassId) (y_rule : ClassId) (y_rules : ClassId) (y_stair : ClassId) (y_low : ClassId) (y_high : ClassId) (y_crack : ClassId) (y_weight : ClassId) (y_fire : ClassId) (y_crowd : ClassId) (y_state : ClassId) (y_where : ClassId) (y_words : ClassId) (y_told : ClassId) (y_breaks : ClassId) (y_row : ClassId) (y_tried : ClassId) (y_steps : ClassId) (y_paths : ClassId) (qo : Nat) (yo : ClassId) (us : Nat) (e1 : Nat) (e2 : Nat) (e3 : Nat) (e4 : Nat) (en : Nat → Nat) (kk : Nat → Nat) (b : Nat) (L : Nat) (xs : Nat → Int32) (hK : va_K D vwCl [(tc, .int), (vc, .int), (ec1, .int), (ec2, .int), (ec3, .int), (ec4, .int), (cc1, .int), (cc2, .int), (cc3, .int), (cc4, .int), (cy1, .int), (cy2, .int), (cy3, .int), (cy4, .int), (cy5, .boolean), (cy6, .boolean), (bc9, .object RX0), (lc1, .int), (lc2, .int), (lc3, .int), (lc4, .boolean), (lc5, .int), (wc1, .int), (wc2, .int), (wc3, .int), (wc4, .int), (y_tape, .int), (y_rule, .int), (y_rules, .int), (y_stair, .int), (y_low, .int), (y_high, .int), (y_crack, .boolean), (y_weight, .int), (y_fire, .boolean), (y_crowd, .int), (y_state, .int), (y_where, .int), (y_words, .int), (y_told, .boolean), (y_breaks, .boolean), (y_row, .int), (y_tried, .int), (y_steps, .int), (y_paths, .int), (yo, .long)] s) (hXC : xC us en kk A s) (hXE : xE e1 e2 e3 e4 A s) (hXs : va_X b L xs s s.heap) (hbl : b < s.heap.size) (hbA : ¬ A b) (hlt : l.stackTraces = false)
    (kx_689 : ∀ (t : Nat), (7 * t ≤ 3584) → ∀ (H : Heap) (locs : List Loc), va_P D vwCl [] H → va_D A [] → va_S A s.heap H locs → ∀ ls : Array Slot, lv_has ls 7 [] → W p l e (room_1) s m args below meth c H locs (67 + t) (3176 + 6 * t) Q (F0 m 689 ls [])) :
    ∀ n : Nat, ∀ (ln : Nat) (tf : Nat → Int32) (lnm : Nat) (s_thrown : Int32) (f_tape : Nat → Int32) (fk : Int32) (fp : Int32) (tx : Nat) (rl : Int32) (nx : Int32) (tk : Int32) (sa : Int32) (vl : Int32) (fv : Nat → Int32) (dsc : Int32) (dto : Int32) (ef1 : Nat → Int32) (ef2 : Nat → Int32) (ef3 : Nat → Int32) (ef4 : Nat → Int32) (sc : Int32) (to : Int32) (cf1 : Nat → Int32) (cf2 : Nat → Int32) (cf3 : Nat → Int32) (cf4 : Nat → Int32) (sn : Nat) (s_readStairs : Int32) (s_fault : Int32) (s_faultPlace : Int32) (s_end : Int32) (s_next : Int32) (s_kind : Int32) (s_which : Int32) (s_place : Int32) (s_read : Int32) (f_stair : Nat → Int32) (f_rules : Nat → Int32) (f_told : Nat → Int32) (f_rule : Nat → Int32) (P : PSt) (bc : Nat) (ho : Int32) (fe : Int32) (w : Nat) (h : Nat) (f1 : Nat → Int32) (f2 : Nat → Int32) (f3 : Nat → Int32) (f4 : Nat → Int32) (f5 : Nat → Int32) (wm : Nat) (hm : Nat) (bcm : Nat) (s_hours : Int32) (s_fees : Int32) (f_low : Nat → Int32) (f_high : Nat → Int32) (f_crack : Nat → Int32) (B1 : Nat → Int32) (B2 : Nat → Int32) (B3 : Nat → Int32) (B4 : Nat → Int32) (B5 : Nat → Int32) (B6 : Nat → Int32) (B7 : Nat → Int32) (f_weight : Nat → Int32) (f_fire : Nat → Int32) (f_crowd : Nat → Int32) (f_state : Nat → Int32) (wt : Nat → Nat) (f_where : Nat → Int32) (wh : Nat → Nat) (f6 : Nat → Int32) (f_breaks : Nat → Int32) (lk : Int32) (wn : Int32) (on : Int32) (ab : Int32) (l1 : Nat → Int32) (l2 : Nat → Int32) (l3 : Nat → Int32) (l4 : Nat → Int32) (l5 : Nat → Int32) (s_looks : Int32) (f_row : Nat → Int32) (f_tried : Nat → Int32) (qd : Int32) (cr : Int32) (s1 : Nat → Int32) (s2 : Nat → Int32) (s3 : Nat → Int32) (s4 : Nat → Int32) (f_steps : Nat → Int32) (f_paths : Nat → Int32) (fo : Nat → Int64) (t : Nat), (ln ≤ 400) → (bc ≤ 10) → (w ≤ 10) → (h ≤ 10) → (sn ≤ 4) → (rOK 100 f_stair 24) → (lnm = ln) → (bcm = bc) → (wm = w) → (hm = h) → (f_tape = tf) → (s_fault = fk) → (s_faultPlace = fp) → (f_low = f1) → (f_high = f2) → (f_crack = f5) → (f_weight = B2) → (f_fire = B3) → (f_crowd = B4) → (f_state = B5) → (s_hours = ho) → (s_fees = fe) → (CI bc w h B1 B2 B5 B6 B7 f3 f4 wt wh) → (∀ b, b < bc → B5 b = 1 → f_where b = nI (wh b)) → (Kc P cf1 cf2 cf3 cf4 sc) → (Km P sn f_rule f_stair) → (PB P) → (∀ c, c < 100 → 0 ≤ (f1 c).toInt ∧ (f1 c).toInt ≤ 99) → (∀ c, ¬ (c % 10 < w ∧ c / 10 < h) → f5 c = 0) → (SB P) → (∀ b, b < bc → B4 b = nI (cwU B4 b) ∧ cwU B4 b ≤ 99) → (L ≤ 3584) → (7 * t ≤ 3584) → (L - 7 * t) < n → ∀ (H : Heap) (locs : List Loc), va_P D vwCl (bL bo B1 B2 B3 B4 B5 B6 B7 ++ ([(h0, Sum.inr (8, [Value.ref tp, Value.ref rd, Value.ref dr, Value.ref fa, Value.ref ly, Value.ref wy])), (tp, Sum.inr (6, [Value.ref tp1, Value.int (nI ln)])), (tp1, Sum.inl (tc, 400, Sum.inl tf)), (rd, Sum.inr (2, [Value.int fk, Value.int fp, Value.ref va, Value.ref tx, Value.int rl, Value.int nx, Value.int tk, Value.int sa, Value.int vl])), (va, Sum.inl (vc, 3, Sum.inl fv)), (dr, Sum.inr (1, [Value.ref dr1, Value.ref dr2, Value.ref dr3, Value.ref dr4, Value.int dsc, Value.int dto])), (dr1, Sum.inl (ec1, 8, Sum.inl ef1)), (dr2, Sum.inl (ec2, 4, Sum.inl ef2)), (dr3, Sum.inl (ec3, 4, Sum.inl ef3)), (dr4, Sum.inl (ec4, 4, Sum.inl ef4)), (fa, Sum.inr (3, [Value.ref cu, Value.ref rv, Value.ref bt, Value.int (nI bc), Value.int ho, Value.int fe])), (cu, Sum.inr (1, [Value.ref cu1, Value.ref cu2, Value.ref cu3, Value.ref cu4, Value.int sc, Value.int to])), (cu1, Sum.inl (cc1, 8, Sum.inl cf1)), (cu2, Sum.inl (cc2, 4, Sum.inl cf2)), (cu3, Sum.inl (cc3, 4, Sum.inl cf3)), (cu4, Sum.inl (cc4, 4, Sum.inl cf4)), (rv, Sum.inr (5, [Value.int (nI w), Value.int (nI h), Value.ref q1, Value.ref q2, Value.ref q3, Value.ref q4, Value.ref q5, Value.ref q6])), (q1, Sum.inl (cy1, 100, Sum.inl f1)), (q2, Sum.inl (cy2, 100, Sum.inl f2)), (q3, Sum.inl (cy3, 100, Sum.inl f3)), (q4, Sum.inl (cy4, 100, Sum.inl f4)), (q5, Sum.inl (cy5, 100, Sum.inl f5)), (q6, Sum.inl (cy6, 100, Sum.inl f6)), (bt, Sum.inl (bc9, 10, Sum.inr (Sum.inr (Sum.inr (Sum.inr (fun j => some (bo j))))))), (ly, Sum.inr (4, [Value.int lk, Value.ref ly1, Value.int wn, Value.ref ly2, Value.ref ly3, Value.ref ly4, Value.int on, Value.ref ly5, Value.int ab])), (ly1, Sum.inl (lc1, 10, Sum.inl l1)), (ly2, Sum.inl (lc2, 100, Sum.inl l2)), (ly3, Sum.inl (lc3, 100, Sum.inl l3)), (ly4, Sum.inl (lc4, 100, Sum.inl l4)), (ly5, Sum.inl (lc5, 10, Sum.inl l5)), (wy, Sum.inr (7, [Value.ref wy1, Value.ref wy2, Value.int qd, Value.ref wy3, Value.ref wy4, Value.int cr])), (wy1, Sum.inl (wc1, 100, Sum.inl s1)), (wy2, Sum.inl (wc2, 100, Sum.inl s2)), (wy3, Sum.inl (wc3, 40, Sum.inl s3)), (wy4, Sum.inl (wc4, 4, Sum.inl s4)), (mo, Sum.inr (9, [Value.ref m_tape, Value.int (nI lnm), Value.int s_thrown, Value.ref m_rule, Value.ref m_rules, Value.int (nI sn), Value.ref m_stair, Value.int s_readStairs, Value.int s_fault, Value.int s_faultPlace, Value.int (nI wm), Value.int (nI hm), Value.ref m_low, Value.ref m_high, Value.ref m_crack, Value.int (nI bcm), Value.ref m_weight, Value.ref m_fire, Value.ref m_crowd, Value.ref m_state, Value.ref m_where, Value.int s_hours, Value.int s_fees, Value.int s_looks, Value.ref m_words, Value.int s_end, Value.int s_next, Value.int s_kind, Value.int s_which, Value.int s_place, Value.int s_read, Value.ref m_told, Value.ref m_breaks, Value.ref m_row, Value.ref m_tried, Value.ref m_steps, Value.ref m_paths])), (m_tape, Sum.inl (y_tape, 400, Sum.inl f_tape)), (m_rule, Sum.inl (y_rule, 8, Sum.inl f_rule)), (m_rules, Sum.inl (y_rules, 8, Sum.inl f_rules)), (m_stair, Sum.inl (y_stair, 24, Sum.inl f_stair)), (m_low, Sum.inl (y_low, 100, Sum.inl f_low)), (m_high, Sum.inl (y_high, 100, Sum.inl f_high)), (m_crack, Sum.inl (y_crack, 100, Sum.inl f_crack)), (m_weight, Sum.inl (y_weight, 10, Sum.inl f_weight)), (m_fire, Sum.inl (y_fire, 10, Sum.inl f_fire)), (m_crowd, Sum.inl (y_crowd, 10, Sum.inl f_crowd)), (m_state, Sum.inl (y_state, 10, Sum.inl f_state)), (m_where, Sum.inl (y_where, 10, Sum.inl f_where)), (m_words, Sum.inl (y_words, 36, Sum.inl wF)), (m_told, Sum.inl (y_told, 7, Sum.inl f_told)), (m_breaks, Sum.inl (y_breaks, 100, Sum.inl f_breaks)), (m_row, Sum.inl (y_row, 10, Sum.inl f_row)), (m_tried, Sum.inl (y_tried, 10, Sum.inl f_tried)), (m_steps, Sum.inl (y_steps, 400, Sum.inl f_steps)), (m_paths, Sum.inl (y_paths, 40, Sum.inl f_paths)), (qo, Sum.inl (yo, 1, Sum.inr (Sum.inl fo)))] : va_W)) H → va_D A (bL bo B1 B2 B3 B4 B5 B6 B7 ++ ([(h0, Sum.inr (8, [Value.ref tp, Value.ref rd, Value.ref dr, Value.ref fa, Value.ref ly, Value.ref wy])), (tp, Sum.inr (6, [Value.ref tp1, Value.int (nI ln)])), (tp1, Sum.inl (tc, 400, Sum.inl tf)), (rd, Sum.inr (2, [Value.int fk, Value.int fp, Value.ref va, Value.ref tx, Value.int rl, Value.int nx, Value.int tk, Value.int sa, Value.int vl])), (va, Sum.inl (vc, 3, Sum.inl fv)), (dr, Sum.inr (1, [Value.ref dr1, Value.ref dr2, Value.ref dr3, Value.ref dr4, Value.int dsc, Value.int dto])), (dr1, Sum.inl (ec1, 8, Sum.inl ef1)), (dr2, Sum.inl (ec2, 4, Sum.inl ef2)), (dr3, Sum.inl (ec3, 4, Sum.inl ef3)), (dr4, Sum.inl (ec4, 4, Sum.inl ef4)), (fa, Sum.inr (3, [Value.ref cu, Value.ref rv, Value.ref bt, Value.int (nI bc), Value.int ho, Value.int fe])), (cu, Sum.inr (1, [Value.ref cu1, Value.ref cu2, Value.ref cu3, Value.ref cu4, Value.int sc, Value.int to])), (cu1, Sum.inl (cc1, 8, Sum.inl cf1)), (cu2, Sum.inl (cc2, 4, Sum.inl cf2)), (cu3, Sum.inl (cc3, 4, Sum.inl cf3)), (cu4, Sum.inl (cc4, 4, Sum.inl cf4)), (rv, Sum.inr (5, [Value.int (nI w), Value.int (nI h), Value.ref q1, Value.ref q2, Value.ref q3, Value.ref q4, Value.ref q5, Value.ref q6])), (q1, Sum.inl (cy1, 100, Sum.inl f1)), (q2, Sum.inl (cy2, 100, Sum.inl f2)), (q3, Sum.inl (cy3, 100, Sum.inl f3)), (q4, Sum.inl (cy4, 100, Sum.inl f4)), (q5, Sum.inl (cy5, 100, Sum.inl f5)), (q6, Sum.inl (cy6, 100, Sum.inl f6)), (bt, Sum.inl (bc9, 10, Sum.inr (Sum.inr (Sum.inr (Sum.inr (fun j => some (bo j))))))), (ly, Sum.inr (4, [Value.int lk, Value.ref ly1, Value.int wn, Value.ref ly2, Value.ref ly3, Value.ref ly4, Value.int on, Value.ref ly5, Value.int ab])), (ly1, Sum.inl (lc1, 10, Sum.inl l1)), (ly2, Sum.inl (lc2, 100, Sum.inl l2)), (ly3, Sum.inl (lc3, 100, Sum.inl l3)), (ly4, Sum.inl (lc4, 100, Sum.inl l4)), (ly5, Sum.inl (lc5, 10, Sum.inl l5)), (wy, Sum.inr (7, [Value.ref wy1, Value.ref wy2, Value.int qd, Value.ref wy3, Value.ref wy4, Value.int cr])), (wy1, Sum.inl (wc1, 100, Sum.inl s1)), (wy2, Sum.inl (wc2, 100, Sum.inl s2)), (wy3, Sum.inl (wc3, 40, Sum.inl s3)), (wy4, Sum.inl (wc4, 4, Sum.inl s4)), (mo, Sum.inr (9, [Value.ref m_tape, Value.int (nI lnm), Value.int s_thrown, Value.ref m_rule, Value.ref m_rules, Value.int (nI sn), Value.ref m_stair, Value.int s_readStairs, Value.int s_fault, Value.int s_faultPlace, Value.int (nI wm), Value.int (nI hm), Value.ref m_low, Value.ref m_high, Value.ref m_crack, Value.int (nI bcm), Value.ref m_weight, Value.ref m_fire, Value.ref m_crowd, Value.ref m_state, Value.ref m_where, Value.int s_hours, Value.int s_fees, Value.int s_looks, Value.ref m_words, Value.int s_end, Value.int s_next, Value.int s_kind, Value.int s_which, Value.int s_place, Value.int s_read, Value.ref m_told, Value.ref m_breaks, Value.ref m_row, Value.ref m_tried, Value.ref m_steps, Value.ref m_paths])), (m_tape, Sum.inl (y_tape, 400, Sum.inl f_tape)), (m_rule, Sum.inl (y_rule, 8, Sum.inl f_rule)), (m_rules, Sum.inl (y_rules, 8, Sum.inl f_rules)), (m_stair, Sum.inl (y_stair, 24, Sum.inl f_stair)), (m_low, Sum.inl (y_low, 100, Sum.inl f_low)), (m_high, Sum.inl (y_high, 100, Sum.inl f_high)), (m_crack, Sum.inl (y_crack, 100, Sum.inl f_crack)), (m_weight, Sum.inl (y_weight, 10, Sum.inl f_weight)), (m_fire, Sum.inl (y_fire, 10, Sum.inl f_fire)), (m_crowd, Sum.inl (y_crowd, 10, Sum.inl f_crowd)), (m_state, Sum.inl (y_state, 10, Sum.inl f_state)), (m_where, Sum.inl (y_where, 10, Sum.inl f_where)), (m_words, Sum.inl (y_words, 36, Sum.inl wF)), (m_told, Sum.inl (y_told, 7, Sum.inl f_told)), (m_breaks, Sum.inl (y_breaks, 100, Sum.inl f_breaks)), (m_row, Sum.inl (y_row, 10, Sum.inl f_row)), (m_tried, Sum.inl (y_tried, 10, Sum.inl f_tried)), (m_steps, Sum.inl (y_steps, 400, Sum.inl f_steps)), (m_paths, Sum.inl (y_paths, 40, Sum.inl f_paths)), (qo, Sum.inl (yo, 1, Sum.inr (Sum.inl fo)))] : va_W)) → va_S A s.heap H locs → ∀ ls : Array Slot, lv_has ls 7 [(0, Value.ref b), (1, Value.ref h0), (2, Value.ref mo), (3, Value.ref qo), (4, Value.int (nI (7 * t)))] → W p l e (room_1) s m args below meth c H locs (67 + t) (3176 + 6 * t) Q (F0 m 23 ls []) := by
  intro n
  induction n with
  | zero => intro ln tf lnm s_thrown f_tape fk fp tx rl nx tk sa vl fv dsc dto ef1 ef2 ef3 ef4 sc to cf1 cf2 cf3 cf4 sn s_readStairs s_fault s_faultPlace s_end s_next s_kind s_which s_place s_read f_stair f_rules f_told f_rule P bc ho fe w h f1 f2 f3 f4 f5 wm hm bcm s_hours s_fees f_low f_high f_crack B1 B2 B3 B4 B5 B6 B7 f_weight f_fire f_crowd f_state wt f_where wh f6 f_breaks lk wn on ab l1 l2 l3 l4 l5 s_looks f_row f_tried qd cr s1 s2 s3 s4 f_steps f_paths fo t i_ln i_bc i_w i_h i_sn hst i_lnm i_bcm i_wm i_hm i_tf i_fk i_fp i_lo i_hi i_ck i_we i_fi i_cr i_st i_ho i_fe i_CI i_wr i_Kc i_Km i_PB i_lb i_ou i_SB i_cb hL ht7 hn; exact absurd hn (Nat.not_lt_zero _)
  | succ n ih =>
    intro ln tf lnm s_thrown f_tape fk fp tx rl nx tk sa vl fv dsc dto ef1 ef2 ef3 ef4 sc to cf1 cf2 cf3 cf4 sn s_readStairs s_fault s_faultPlace s_end s_next s_kind s_which s_place s_read f_stair f_rules f_told f_rule P bc ho fe w h f1 f2 f3 f4 f5 wm hm bcm s_hours s_fees f_low f_high f_crack B1 B2 B3 B4 B5 B6 B7 f_weight f_fire f_crowd f_state wt f_where wh f6 f_breaks lk wn on ab l1 l2 l3 l4 l5 s_looks f_row f_tried qd cr s1 s2 s3 s4 f_steps f_paths fo t i_ln i_bc i_w i_h i_sn hst i_lnm i_bcm i_wm i_hm i_tf i_fk i_fp i_lo i_hi i_ck i_we i_fi i_cr i_st i_ho i_fe i_CI i_wr i_Kc i_Km i_PB i_lb i_ou i_SB i_cb hL ht7 hn H locs hP hD hS ls hl
    obtain ⟨hx, hb, hml, hown, hts⟩ := id F
    refine lv_iload hx hb dL_law_23 (lv_at hl 4 rfl) ?_
    refine lv_aload_n hx hb dL_law_25 rfl (lv_at hl 0 rfl) ?_
    refine va_slen hx hb hXs hbl hbA hS dL_law_26 ?_
    refine lv_topi (fun z_1 ez_1 => ?_)
    obtain rfl : z_1 = nI L := ez_1
    refine lv_bipush (v := 7) hx hb dL_law_27 (by decide) ?_
    refine lv_isub hx hb dL_law_29 ?_
    refine lv_topi (fun z_2 ez_2 => ?_)
    refine lv_icmp_gt (tgt := 689) hx hb dL_law_30 (by decide) (fun c_3 => ?_) (fun c_3 => ?_)
    · skip
      exact kx_689 t (by omega) H locs (hP.sub [] rfl) (hD.sub [] (by decide) rfl) hS ls (lv_sub hl [] rfl)
    · skip
      have hiq : 7 * t + 7 ≤ L := lw_len hL (by omega) (by rw [← ez_2]; exact c_3)
      refine lv_aload_n hx hb dL_law_33 rfl (lv_at hl 0 rfl) ?_
      refine lv_iload hx hb dL_law_34 (lv_at hl 4 rfl) ?_
      refine va_sld hx hb hXs hbl hbA hS (vp_in_nI (by omega) (by omega)) dL_law_36 ?_
      refine lv_topi (fun v_4 ev_4 => ?_)
      refine lv_bipush (v := 15) hx hb dL_law_37 (by decide) ?_
      refine lv_iand hx hb dL_law_39 ?_
      refine lv_topi (fun z_5 ez_5 => ?_)
      by_cases w_6_0 : z_5 = 0
      · skip
        subst w_6_0
        refine lv_tableIn (tgt := 116) hx hb dL_law_40 (by decide) (by decide) rfl (by decide) ?_
        have hl : lv_has ls 7 [(0, Value.ref b), (1, Value.ref h0), (2, Value.ref mo), (3, Value.ref qo), (4, Value.int (nI (7 * t)))] := hl
        refine lw_case_116 F hA bo B1 B2 B3 B4 B5 B6 B7 h0 tp rd dr fa ly wy tp1 ln tc tf fk fp va tx rl nx tk sa vl vc fv dr1 dr2 dr3 dr4 dsc dto ec1 ef1 ec2 ef2 ec3 ef3 ec4 ef4 cu rv bt bc ho fe cu1 cu2 cu3 cu4 sc to cc1 cf1 cc2 cf2 cc3 cf3 cc4 cf4 w h q1 q2 q3 q4 q5 q6 cy1 f1 cy2 f2 cy3 f3 cy4 f4 cy5 f5 cy6 f6 bc9 lk ly1 wn ly2 ly3 ly4 on ly5 ab lc1 l1 lc2 l2 lc3 l3 lc4 l4 lc5 l5 wy1 wy2 qd wy3 wy4 cr wc1 s1 wc2 s2 wc3 s3 wc4 s4 mo m_tape lnm s_thrown m_rule m_rules sn m_stair s_readStairs s_fault s_faultPlace wm hm m_low m_high m_crack bcm m_weight m_fire m_crowd m_state m_where s_hours s_fees s_looks m_words s_end s_next s_kind s_which s_place s_read m_told m_breaks m_row m_tried m_steps m_paths y_tape f_tape y_rule f_rule y_rules f_rules y_stair f_stair y_low f_low y_high f_high y_crack f_crack y_weight f_weight y_fire f_fire y_crowd f_crowd y_state f_state y_where f_where y_words y_told f_told y_breaks f_breaks y_row f_row y_tried f_tried y_steps f_steps y_paths f_paths qo yo fo (7 * t) (67 + t) (3176 + 6 * t) us e1 e2 e3 e4 en kk b L xs wt wh P (hK.sub [0, 1, 2, 3, 4, 5, 6, 7, 8, 9, 10, 11, 12, 13, 14, 15, 16, 17, 18, 19, 20, 21, 22, 23, 24, 25, 26, 27, 28, 29, 30, 31, 32, 33, 34, 35, 36, 37, 38, 39, 40, 41, 42, 43, 44, 45] rfl) hXC hXE hXs hbl hbA hlt (fun X_ln_7 X_tf_8 X_lnm_9 X_s_thrown_10 X_f_tape_11 h_12 h_13 h_14 h_15 h_16 h_17 h_18 h_19 h_20 h_21 h_22 h_23 h_24 h_25 h_26 h_27 h_28 h_29 h_30 h_31 h_32 h_33 h_34 h_35 h_36 h_37 h_38 h_39 h_40 h_41 h_42 H locs hP hD hS ls hl => ?_) _  (by omega) (by omega) (by omega) (by omega) (by omega) hst (by omega) (by omega) (by omega) (by omega) i_tf i_fk i_fp i_lo i_hi i_ck i_we i_fi i_cr i_st i_ho i_fe i_CI i_wr i_Kc i_Km i_PB i_lb i_ou i_SB i_cb (by omega) (by omega) (by omega) (by omega) (Nat.lt_succ_self _) _ _ (hP.sub [0, 1, 2, 3, 4, 5, 6, 7, 8, 9, 10, 11, 12, 13, 14, 15, 16, 17, 18, 19, 20, 21, 22, 23, 24, 25, 26, 27, 28, 29, 30, 31, 32, 33, 34, 35, 36, 37, 38, 39, 40, 41, 42, 43, 44, 45, 46, 47, 48, 49, 50, 51, 52, 53, 54, 55, 56, 57, 58, 59, 60, 61, 62, 63, 64, 65] rfl) (hD.sub [0, 1, 2, 3, 4, 5, 6, 7, 8, 9, 10, 11, 12, 13, 14, 15, 16, 17, 18, 19, 20, 21, 22, 23, 24, 25, 26, 27, 28, 29, 30, 31, 32, 33, 34, 35, 36, 37, 38, 39, 40, 41, 42, 43, 44, 45, 46, 47, 48, 49, 50, 51, 52, 53, 54, 55, 56, 57, 58, 59, 60, 61, 62, 63, 64, 65] (by decide) rfl) hS ls (lv_sub hl [0, 1, 2, 3, 4] rfl)
        have h_12 : X_ln_7 ≤ 400 := h_12
        have h_13 : bc ≤ 10 := h_13
        have h_14 : w ≤ 10 := h_14
        have h_15 : h ≤ 10 := h_15
        have h_16 : sn ≤ 4 := h_16
        have h_17 : rOK 100 f_stair 24 := h_17
        have h_18 : X_lnm_9 = X_ln_7 := h_18
        have h_19 : bcm = bc := h_19
        have h_20 : wm = w := h_20
        have h_21 : hm = h := h_21
        have h_22 : X_f_tape_11 = X_tf_8 := h_22
        have h_23 : s_fault = fk := h_23
        have h_24 : s_faultPlace = fp := h_24
        have h_25 : f_low = f1 := h_25
        have h_26 : f_high = f2 := h_26
        have h_27 : f_crack = f5 := h_27
        have h_28 : f_weight = B2 := h_28
        have h_29 : f_fire = B3 := h_29
        have h_30 : f_crowd = B4 := h_30
        have h_31 : f_state = B5 := h_31
        have h_32 : s_hours = ho := h_32
        have h_33 : s_fees = fe := h_33
        have h_34 : CI bc w h B1 B2 B5 B6 B7 f3 f4 wt wh := h_34
        have h_35 : ∀ b, b < bc → B5 b = 1 → f_where b = nI (wh b) := h_35
        have h_36 : Kc P cf1 cf2 cf3 cf4 sc := h_36
        have h_37 : Km P sn f_rule f_stair := h_37
        have h_38 : PB P := h_38
        have h_39 : ∀ c, c < 100 → 0 ≤ (f1 c).toInt ∧ (f1 c).toInt ≤ 99 := h_39
        have h_40 : ∀ c, ¬ (c % 10 < w ∧ c / 10 < h) → f5 c = 0 := h_40
        have h_41 : SB P := h_41
        have h_42 : ∀ b, b < bc → B4 b = nI (cwU B4 b) ∧ cwU B4 b ≤ 99 := h_42
        refine lv_iinc (v := nI (7 * t + 7)) (lv' := [(4, Value.int (nI (7 * t + 7))), (0, Value.ref b), (1, Value.ref h0), (2, Value.ref mo), (3, Value.ref qo)]) hx hb dL_law_683 hl (k := 4) rfl (nI_add (7 * t) 7) (by decide) rfl (fun ls hl => ?_)
        rw [show 7 * t + 7 = 7 * (t + 1) from rfl] at hl
        have hl : lv_has ls 7 [(4, Value.int (nI (7 * (t + 1)))), (0, Value.ref b), (1, Value.ref h0), (2, Value.ref mo), (3, Value.ref qo)] := hl
        refine lv_goto (tgt := 23) hx hb dL_law_686 (by decide) ?_
        refine W.widen (k := 67 + (t + 1)) (n := 3176 + 6 * (t + 1)) (by omega) (by omega) ?_
        exact ih X_ln_7 X_tf_8 X_lnm_9 X_s_thrown_10 X_f_tape_11 fk fp tx rl nx tk sa vl fv dsc dto ef1 ef2 ef3 ef4 sc to cf1 cf2 cf3 cf4 sn s_readStairs s_fault s_faultPlace s_end s_next s_kind s_which s_place s_read f_stair f_rules f_told f_rule P bc ho fe w h f1 f2 f3 f4 f5 wm hm bcm s_hours s_fees f_low f_high f_crack B1 B2 B3 B4 B5 B6 B7 f_weight f_fire f_crowd f_state wt f_where wh f6 f_breaks lk wn on ab l1 l2 l3 l4 l5 s_looks f_row f_tried qd cr s1 s2 s3 s4 f_steps f_paths fo (t + 1) (by omega) (by omega) (by omega) (by omega) (by omega) h_17 (by omega) (by omega) (by omega) (by omega) h_22 h_23 h_24 h_25 h_26 h_27 h_28 h_29 h_30 h_31 h_32 h_33 h_34 h_35 h_36 h_37 h_38 h_39 h_40 h_41 h_42 (by omega) (by omega) (by omega) H locs (hP.sub [0, 1, 2, 3, 4, 5, 6, 7, 8, 9, 10, 11, 12, 13, 14, 15, 16, 17, 18, 19, 20, 21, 22, 23, 24, 25, 26, 27, 28, 29, 30, 31, 32, 33, 34, 35, 36, 37, 38, 39, 40, 41, 42, 43, 44, 45, 46, 47, 48, 49, 50, 51, 52, 53, 54, 55, 56, 57, 58, 59, 60, 61, 62, 63, 64, 65] rfl) (hD.sub [0, 1, 2, 3, 4, 5, 6, 7, 8, 9, 10, 11, 12, 13, 14, 15, 16, 17, 18, 19, 20, 21, 22, 23, 24, 25, 26, 27, 28, 29, 30, 31, 32, 33, 34, 35, 36, 37, 38, 39, 40, 41, 42, 43, 44, 45, 46, 47, 48, 49, 50, 51, 52, 53, 54, 55, 56, 57, 58, 59, 60, 61, 62, 63, 64, 65] (by decide) rfl) hS ls (lv_sub hl [1, 2, 3, 4, 0] rfl)
      by_cases w_6_1 : z_5 = 1
      · skip
        subst w_6_1
        refine lv_tableIn (tgt := 189) hx hb dL_law_40 (by decide) (by decide) rfl (by decide) ?_
        have hl : lv_has ls 7 [(0, Value.ref b), (1, Value.ref h0), (2, Value.ref mo), (3, Value.ref qo), (4, Value.int (nI (7 * t)))] := hl
        refine lw_case_189 F hA bo B1 B2 B3 B4 B5 B6 B7 h0 tp rd dr fa ly wy tp1 ln tc tf fk fp va tx rl nx tk sa vl vc fv dr1 dr2 dr3 dr4 dsc dto ec1 ef1 ec2 ef2 ec3 ef3 ec4 ef4 cu rv bt bc ho fe cu1 cu2 cu3 cu4 sc to cc1 cf1 cc2 cf2 cc3 cf3 cc4 cf4 w h q1 q2 q3 q4 q5 q6 cy1 f1 cy2 f2 cy3 f3 cy4 f4 cy5 f5 cy6 f6 bc9 lk ly1 wn ly2 ly3 ly4 on ly5 ab lc1 l1 lc2 l2 lc3 l3 lc4 l4 lc5 l5 wy1 wy2 qd wy3 wy4 cr wc1 s1 wc2 s2 wc3 s3 wc4 s4 mo m_tape lnm s_thrown m_rule m_rules sn m_stair s_readStairs s_fault s_faultPlace wm hm m_low m_high m_crack bcm m_weight m_fire m_crowd m_state m_where s_hours s_fees s_looks m_words s_end s_next s_kind s_which s_place s_read m_told m_breaks m_row m_tried m_steps m_paths y_tape f_tape y_rule f_rule y_rules f_rules y_stair f_stair y_low f_low y_high f_high y_crack f_crack y_weight f_weight y_fire f_fire y_crowd f_crowd y_state f_state y_where f_where y_words y_told f_told y_breaks f_breaks y_row f_row y_tried f_tried y_steps f_steps y_paths f_paths qo yo fo (7 * t) (67 + t) (3176 + 6 * t) us e1 e2 e3 e4 en kk b L xs wt wh P (hK.sub [0, 1, 2, 3, 4, 5, 6, 7, 8, 9, 10, 11, 12, 13, 14, 15, 16, 17, 18, 19, 20, 21, 22, 23, 24, 25, 26, 27, 28, 29, 30, 31, 32, 33, 34, 35, 36, 37, 38, 39, 40, 41, 42, 43, 44, 45] rfl) hXC hXE hXs hbl hbA hlt (fun X_ln_43 X_fk_44 X_fp_45 X_tx_46 X_rl_47 X_nx_48 X_tk_49 X_sa_50 X_vl_51 X_fv_52 X_dsc_53 X_dto_54 X_ef1_55 X_ef2_56 X_ef3_57 X_ef4_58 X_sc_59 X_to_60 X_cf1_61 X_cf2_62 X_cf3_63 X_cf4_64 X_lnm_65 X_s_thrown_66 X_sn_67 X_s_readStairs_68 X_s_fault_69 X_s_faultPlace_70 X_s_end_71 X_s_next_72 X_s_kind_73 X_s_which_74 X_s_place_75 X_s_read_76 X_f_stair_77 X_f_rules_78 X_f_told_79 X_f_rule_80 X_P_81 h_82 h_83 h_84 h_85 h_86 h_87 h_88 h_89 h_90 h_91 h_92 h_93 h_94 h_95 h_96 h_97 h_98 h_99 h_100 h_101 h_102 h_103 h_104 h_105 h_106 h_107 h_108 h_109 h_110 h_111 h_112 H locs hP hD hS ls hl => ?_) _  (by omega) (by omega) (by omega) (by omega) (by omega) hst (by omega) (by omega) (by omega) (by omega) i_tf i_fk i_fp i_lo i_hi i_ck i_we i_fi i_cr i_st i_ho i_fe i_CI i_wr i_Kc i_Km i_PB i_lb i_ou i_SB i_cb (by omega) (by omega) (by omega) (by omega) (Nat.lt_succ_self _) _ _ (hP.sub [0, 1, 2, 3, 4, 5, 6, 7, 8, 9, 10, 11, 12, 13, 14, 15, 16, 17, 18, 19, 20, 21, 22, 23, 24, 25, 26, 27, 28, 29, 30, 31, 32, 33, 34, 35, 36, 37, 38, 39, 40, 41, 42, 43, 44, 45, 46, 47, 48, 49, 50, 51, 52, 53, 54, 55, 56, 57, 58, 59, 60, 61, 62, 63, 64, 65] rfl) (hD.sub [0, 1, 2, 3, 4, 5, 6, 7, 8, 9, 10, 11, 12, 13, 14, 15, 16, 17, 18, 19, 20, 21, 22, 23, 24, 25, 26, 27, 28, 29, 30, 31, 32, 33, 34, 35, 36, 37, 38, 39, 40, 41, 42, 43, 44, 45, 46, 47, 48, 49, 50, 51, 52, 53, 54, 55, 56, 57, 58, 59, 60, 61, 62, 63, 64, 65] (by decide) rfl) hS ls (lv_sub hl [0, 1, 2, 3, 4] rfl)
        have h_82 : X_ln_43 ≤ 400 := h_82
        have h_83 : bc ≤ 10 := h_83
        have h_84 : w ≤ 10 := h_84
        have h_85 : h ≤ 10 := h_85
        have h_86 : X_sn_67 ≤ 4 := h_86
        have h_87 : rOK 100 X_f_stair_77 24 := h_87
        have h_88 : X_lnm_65 = X_ln_43 := h_88
        have h_89 : bcm = bc := h_89
        have h_90 : wm = w := h_90
        have h_91 : hm = h := h_91
        have h_92 : f_tape = tf := h_92
        have h_93 : X_s_fault_69 = X_fk_44 := h_93
        have h_94 : X_s_faultPlace_70 = X_fp_45 := h_94
        have h_95 : f_low = f1 := h_95
        have h_96 : f_high = f2 := h_96
        have h_97 : f_crack = f5 := h_97
        have h_98 : f_weight = B2 := h_98
        have h_99 : f_fire = B3 := h_99
        have h_100 : f_crowd = B4 := h_100
        have h_101 : f_state = B5 := h_101
        have h_102 : s_hours = ho := h_102
        have h_103 : s_fees = fe := h_103
        have h_104 : CI bc w h B1 B2 B5 B6 B7 f3 f4 wt wh := h_104
        have h_105 : ∀ b, b < bc → B5 b = 1 → f_where b = nI (wh b) := h_105
        have h_106 : Kc X_P_81 X_cf1_61 X_cf2_62 X_cf3_63 X_cf4_64 X_sc_59 := h_106
        have h_107 : Km X_P_81 X_sn_67 X_f_rule_80 X_f_stair_77 := h_107
        have h_108 : PB X_P_81 := h_108
        have h_109 : ∀ c, c < 100 → 0 ≤ (f1 c).toInt ∧ (f1 c).toInt ≤ 99 := h_109
        have h_110 : ∀ c, ¬ (c % 10 < w ∧ c / 10 < h) → f5 c = 0 := h_110
        have h_111 : SB X_P_81 := h_111
        have h_112 : ∀ b, b < bc → B4 b = nI (cwU B4 b) ∧ cwU B4 b ≤ 99 := h_112
        refine lv_iinc (v := nI (7 * t + 7)) (lv' := [(4, Value.int (nI (7 * t + 7))), (0, Value.ref b), (1, Value.ref h0), (2, Value.ref mo), (3, Value.ref qo)]) hx hb dL_law_683 hl (k := 4) rfl (nI_add (7 * t) 7) (by decide) rfl (fun ls hl => ?_)
        rw [show 7 * t + 7 = 7 * (t + 1) from rfl] at hl
        have hl : lv_has ls 7 [(4, Value.int (nI (7 * (t + 1)))), (0, Value.ref b), (1, Value.ref h0), (2, Value.ref mo), (3, Value.ref qo)] := hl
        refine lv_goto (tgt := 23) hx hb dL_law_686 (by decide) ?_
        refine W.widen (k := 67 + (t + 1)) (n := 3176 + 6 * (t + 1)) (by omega) (by omega) ?_
        exact ih X_ln_43 tf X_lnm_65 X_s_thrown_66 f_tape X_fk_44 X_fp_45 X_tx_46 X_rl_47 X_nx_48 X_tk_49 X_sa_50 X_vl_51 X_fv_52 X_dsc_53 X_dto_54 X_ef1_55 X_ef2_56 X_ef3_57 X_ef4_58 X_sc_59 X_to_60 X_cf1_61 X_cf2_62 X_cf3_63 X_cf4_64 X_sn_67 X_s_readStairs_68 X_s_fault_69 X_s_faultPlace_70 X_s_end_71 X_s_next_72 X_s_kind_73 X_s_which_74 X_s_place_75 X_s_read_76 X_f_stair_77 X_f_rules_78 X_f_told_79 X_f_rule_80 X_P_81 bc ho fe w h f1 f2 f3 f4 f5 wm hm bcm s_hours s_fees f_low f_high f_crack B1 B2 B3 B4 B5 B6 B7 f_weight f_fire f_crowd f_state wt f_where wh f6 f_breaks lk wn on ab l1 l2 l3 l4 l5 s_looks f_row f_tried qd cr s1 s2 s3 s4 f_steps f_paths fo (t + 1) (by omega) (by omega) (by omega) (by omega) (by omega) h_87 (by omega) (by omega) (by omega) (by omega) h_92 h_93 h_94 h_95 h_96 h_97 h_98 h_99 h_100 h_101 h_102 h_103 h_104 h_105 h_106 h_107 h_108 h_109 h_110 h_111 h_112 (by omega) (by omega) (by omega) H locs (hP.sub [0, 1, 2, 3, 4, 5, 6, 7, 8, 9, 10, 11, 12, 13, 14, 15, 16, 17, 18, 19, 20, 21, 22, 23, 24, 25, 26, 27, 28, 29, 30, 31, 32, 33, 34, 35, 36, 37, 38, 39, 40, 41, 42, 43, 44, 45, 46, 47, 48, 49, 50, 51, 52, 53, 54, 55, 56, 57, 58, 59, 60, 61, 62, 63, 64, 65] rfl) (hD.sub [0, 1, 2, 3, 4, 5, 6, 7, 8, 9, 10, 11, 12, 13, 14, 15, 16, 17, 18, 19, 20, 21, 22, 23, 24, 25, 26, 27, 28, 29, 30, 31, 32, 33, 34, 35, 36, 37, 38, 39, 40, 41, 42, 43, 44, 45, 46, 47, 48, 49, 50, 51, 52, 53, 54, 55, 56, 57, 58, 59, 60, 61, 62, 63, 64, 65] (by decide) rfl) hS ls (lv_sub hl [1, 2, 3, 4, 0] rfl)
      by_cases w_6_2 : z_5 = 2
      · skip
        subst w_6_2
        refine lv_tableIn (tgt := 214) hx hb dL_law_40 (by decide) (by decide) rfl (by decide) ?_
        have hl : lv_has ls 7 [(0, Value.ref b), (1, Value.ref h0), (2, Value.ref mo), (3, Value.ref qo), (4, Value.int (nI (7 * t)))] := hl
        refine lw_case_214 F hA bo B1 B2 B3 B4 B5 B6 B7 h0 tp rd dr fa ly wy tp1 ln tc tf fk fp va tx rl nx tk sa vl vc fv dr1 dr2 dr3 dr4 dsc dto ec1 ef1 ec2 ef2 ec3 ef3 ec4 ef4 cu rv bt bc ho fe cu1 cu2 cu3 cu4 sc to cc1 cf1 cc2 cf2 cc3 cf3 cc4 cf4 w h q1 q2 q3 q4 q5 q6 cy1 f1 cy2 f2 cy3 f3 cy4 f4 cy5 f5 cy6 f6 bc9 lk ly1 wn ly2 ly3 ly4 on ly5 ab lc1 l1 lc2 l2 lc3 l3 lc4 l4 lc5 l5 wy1 wy2 qd wy3 wy4 cr wc1 s1 wc2 s2 wc3 s3 wc4 s4 mo m_tape lnm s_thrown m_rule m_rules sn m_stair s_readStairs s_fault s_faultPlace wm hm m_low m_high m_crack bcm m_weight m_fire m_crowd m_state m_where s_hours s_fees s_looks m_words s_end s_next s_kind s_which s_place s_read m_told m_breaks m_row m_tried m_steps m_paths y_tape f_tape y_rule f_rule y_rules f_rules y_stair f_stair y_low f_low y_high f_high y_crack f_crack y_weight f_weight y_fire f_fire y_crowd f_crowd y_state f_state y_where f_where y_words y_told f_told y_breaks f_breaks y_row f_row y_tried f_tried y_steps f_steps y_paths f_paths qo yo fo (7 * t) (67 + t) (3176 + 6 * t) us e1 e2 e3 e4 en kk b L xs wt wh P (hK.sub [0, 1, 2, 3, 4, 5, 6, 7, 8, 9, 10, 11, 12, 13, 14, 15, 16, 17, 18, 19, 20, 21, 22, 23, 24, 25, 26, 27, 28, 29, 30, 31, 32, 33, 34, 35, 36, 37, 38, 39, 40, 41, 42, 43, 44, 45] rfl) hXC hXE hXs hbl hbA hlt (fun X_s_thrown_113 h_114 h_115 h_116 h_117 h_118 h_119 h_120 h_121 h_122 h_123 h_124 h_125 h_126 h_127 h_128 h_129 h_130 h_131 h_132 h_133 h_134 h_135 h_136 h_137 h_138 h_139 h_140 h_141 h_142 h_143 h_144 H locs hP hD hS ls hl => ?_) _  (by omega) (by omega) (by omega) (by omega) (by omega) hst (by omega) (by omega) (by omega) (by omega) i_tf i_fk i_fp i_lo i_hi i_ck i_we i_fi i_cr i_st i_ho i_fe i_CI i_wr i_Kc i_Km i_PB i_lb i_ou i_SB i_cb (by omega) (by omega) (by omega) (by omega) (Nat.lt_succ_self _) _ _ (hP.sub [0, 1, 2, 3, 4, 5, 6, 7, 8, 9, 10, 11, 12, 13, 14, 15, 16, 17, 18, 19, 20, 21, 22, 23, 24, 25, 26, 27, 28, 29, 30, 31, 32, 33, 34, 35, 36, 37, 38, 39, 40, 41, 42, 43, 44, 45, 46, 47, 48, 49, 50, 51, 52, 53, 54, 55, 56, 57, 58, 59, 60, 61, 62, 63, 64, 65] rfl) (hD.sub [0, 1, 2, 3, 4, 5, 6, 7, 8, 9, 10, 11, 12, 13, 14, 15, 16, 17, 18, 19, 20, 21, 22, 23, 24, 25, 26, 27, 28, 29, 30, 31, 32, 33, 34, 35, 36, 37, 38, 39, 40, 41, 42, 43, 44, 45, 46, 47, 48, 49, 50, 51, 52, 53, 54, 55, 56, 57, 58, 59, 60, 61, 62, 63, 64, 65] (by decide) rfl) hS ls (lv_sub hl [0, 1, 2, 3, 4] rfl)
        have h_114 : ln ≤ 400 := h_114
        have h_115 : bc ≤ 10 := h_115
        have h_116 : w ≤ 10 := h_116
        have h_117 : h ≤ 10 := h_117
        have h_118 : sn ≤ 4 := h_118
        have h_119 : rOK 100 f_stair 24 := h_119
        have h_120 : lnm = ln := h_120
        have h_121 : bcm = bc := h_121
        have h_122 : wm = w := h_122
        have h_123 : hm = h := h_123
        have h_124 : f_tape = tf := h_124
        have h_125 : s_fault = fk := h_125
        have h_126 : s_faultPlace = fp := h_126
        have h_127 : f_low = f1 := h_127
        have h_128 : f_high = f2 := h_128
        have h_129 : f_crack = f5 := h_129
        have h_130 : f_weight = B2 := h_130
        have h_131 : f_fire = B3 := h_131
        have h_132 : f_crowd = B4 := h_132
        have h_133 : f_state = B5 := h_133
        have h_134 : s_hours = ho := h_134
        have h_135 : s_fees = fe := h_135
        have h_136 : CI bc w h B1 B2 B5 B6 B7 f3 f4 wt wh := h_136
        have h_137 : ∀ b, b < bc → B5 b = 1 → f_where b = nI (wh b) := h_137
        have h_138 : Kc P cf1 cf2 cf3 cf4 sc := h_138
        have h_139 : Km P sn f_rule f_stair := h_139
        have h_140 : PB P := h_140
        have h_141 : ∀ c, c < 100 → 0 ≤ (f1 c).toInt ∧ (f1 c).toInt ≤ 99 := h_141
        have h_142 : ∀ c, ¬ (c % 10 < w ∧ c / 10 < h) → f5 c = 0 := h_142
        have h_143 : SB P := h_143
        have h_144 : ∀ b, b < bc → B4 b = nI (cwU B4 b) ∧ cwU B4 b ≤ 99 := h_144
        refine lv_iinc (v := nI (7 * t + 7)) (lv' := [(4, Value.int (nI (7 * t + 7))), (0, Value.ref b), (1, Value.ref h0), (2, Value.ref mo), (3, Value.ref qo)]) hx hb dL_law_683 hl (k := 4) rfl (nI_add (7 * t) 7) (by decide) rfl (fun ls hl => ?_)
        rw [show 7 * t + 7 = 7 * (t + 1) from rfl] at hl
        have hl : lv_has ls 7 [(4, Value.int (nI (7 * (t + 1)))), (0, Value.ref b), (1, Value.ref h0), (2, Value.ref mo), (3, Value.ref qo)] := hl
        refine lv_goto (tgt := 23) hx hb dL_law_686 (by decide) ?_
        refine W.widen (k := 67 + (t + 1)) (n := 3176 + 6 * (t + 1)) (by omega) (by omega) ?_
        exact ih ln tf lnm X_s_thrown_113 f_tape fk fp tx rl nx tk sa vl fv dsc dto ef1 ef2 ef3 ef4 sc to cf1 cf2 cf3 cf4 sn s_readStairs s_fault s_faultPlace s_end s_next s_kind s_which s_place s_read f_stair f_rules f_told f_rule P bc ho fe w h f1 f2 f3 f4 f5 wm hm bcm s_hours s_fees f_low f_high f_crack B1 B2 B3 B4 B5 B6 B7 f_weight f_fire f_crowd f_state wt f_where wh f6 f_breaks lk wn on ab l1 l2 l3 l4 l5 s_looks f_row f_tried qd cr s1 s2 s3 s4 f_steps f_paths fo (t + 1) (by omega) (by omega) (by omega) (by omega) (by omega) h_119 (by omega) (by omega) (by omega) (by omega) h_124 h_125 h_126 h_127 h_128 h_129 h_130 h_131 h_132 h_133 h_134 h_135 h_136 h_137 h_138 h_139 h_140 h_141 h_142 h_143 h_144 (by omega) (by omega) (by omega) H locs (hP.sub [0, 1, 2, 3, 4, 5, 6, 7, 8, 9, 10, 11, 12, 13, 14, 15, 16, 17, 18, 19, 20, 21, 22, 23, 24, 25, 26, 27, 28, 29, 30, 31, 32, 33, 34, 35, 36, 37, 38, 39, 40, 41, 42, 43, 44, 45, 46, 47, 48, 49, 50, 51, 52, 53, 54, 55, 56, 57, 58, 59, 60, 61, 62, 63, 64, 65] rfl) (hD.sub [0, 1, 2, 3, 4, 5, 6, 7, 8, 9, 10, 11, 12, 13, 14, 15, 16, 17, 18, 19, 20, 21, 22, 23, 24, 25, 26, 27, 28, 29, 30, 31, 32, 33, 34, 35, 36, 37, 38, 39, 40, 41, 42, 43, 44, 45, 46, 47, 48, 49, 50, 51, 52, 53, 54, 55, 56, 57, 58, 59, 60, 61, 62, 63, 64, 65] (by decide) rfl) hS ls (lv_sub hl [1, 2, 3, 4, 0] rfl)
      by_cases w_6_3 : z_5 = 3
      · skip
        subst w_6_3
        refine lv_tableIn (tgt := 239) hx hb dL_law_40 (by decide) (by decide) rfl (by decide) ?_
        have hl : lv_has ls 7 [(0, Value.ref b), (1, Value.ref h0), (2, Value.ref mo), (3, Value.ref qo), (4, Value.int (nI (7 * t)))] := hl
        refine lw_case_239 F hA bo B1 B2 B3 B4 B5 B6 B7 h0 tp rd dr fa ly wy tp1 ln tc tf fk fp va tx rl nx tk sa vl vc fv dr1 dr2 dr3 dr4 dsc dto ec1 ef1 ec2 ef2 ec3 ef3 ec4 ef4 cu rv bt bc ho fe cu1 cu2 cu3 cu4 sc to cc1 cf1 cc2 cf2 cc3 cf3 cc4 cf4 w h q1 q2 q3 q4 q5 q6 cy1 f1 cy2 f2 cy3 f3 cy4 f4 cy5 f5 cy6 f6 bc9 lk ly1 wn ly2 ly3 ly4 on ly5 ab lc1 l1 lc2 l2 lc3 l3 lc4 l4 lc5 l5 wy1 wy2 qd wy3 wy4 cr wc1 s1 wc2 s2 wc3 s3 wc4 s4 mo m_tape lnm s_thrown m_rule m_rules sn m_stair s_readStairs s_fault s_faultPlace wm hm m_low m_high m_crack bcm m_weight m_fire m_crowd m_state m_where s_hours s_fees s_looks m_words s_end s_next s_kind s_which s_place s_read m_told m_breaks m_row m_tried m_steps m_paths y_tape f_tape y_rule f_rule y_rules f_rules y_stair f_stair y_low f_low y_high f_high y_crack f_crack y_weight f_weight y_fire f_fire y_crowd f_crowd y_state f_state y_where f_where y_words y_told f_told y_breaks f_breaks y_row f_row y_tried f_tried y_steps f_steps y_paths f_paths qo yo fo (7 * t) (67 + t) (3176 + 6 * t) us e1 e2 e3 e4 en kk b L xs wt wh P (hK.sub [0, 1, 2, 3, 4, 5, 6, 7, 8, 9, 10, 11, 12, 13, 14, 15, 16, 17, 18, 19, 20, 21, 22, 23, 24, 25, 26, 27, 28, 29, 30, 31, 32, 33, 34, 35, 36, 37, 38, 39, 40, 41, 42, 43, 44, 45] rfl) hXC hXE hXs hbl hbA hlt (fun X_bc_145 X_ho_146 X_fe_147 X_w_148 X_h_149 X_f1_150 X_f2_151 X_f3_152 X_f4_153 X_f5_154 X_s_thrown_155 X_wm_156 X_hm_157 X_bcm_158 X_s_hours_159 X_s_fees_160 X_f_low_161 X_f_high_162 X_f_crack_163 h_164 h_165 h_166 h_167 h_168 h_169 h_170 h_171 h_172 h_173 h_174 h_175 h_176 h_177 h_178 h_179 h_180 h_181 h_182 h_183 h_184 h_185 h_186 h_187 h_188 h_189 h_190 h_191 h_192 h_193 h_194 H locs hP hD hS ls hl => ?_) _  (by omega) (by omega) (by omega) (by omega) (by omega) hst (by omega) (by omega) (by omega) (by omega) i_tf i_fk i_fp i_lo i_hi i_ck i_we i_fi i_cr i_st i_ho i_fe i_CI i_wr i_Kc i_Km i_PB i_lb i_ou i_SB i_cb (by omega) (by omega) (by omega) (by omega) (Nat.lt_succ_self _) _ _ (hP.sub [0, 1, 2, 3, 4, 5, 6, 7, 8, 9, 10, 11, 12, 13, 14, 15, 16, 17, 18, 19, 20, 21, 22, 23, 24, 25, 26, 27, 28, 29, 30, 31, 32, 33, 34, 35, 36, 37, 38, 39, 40, 41, 42, 43, 44, 45, 46, 47, 48, 49, 50, 51, 52, 53, 54, 55, 56, 57, 58, 59, 60, 61, 62, 63, 64, 65] rfl) (hD.sub [0, 1, 2, 3, 4, 5, 6, 7, 8, 9, 10, 11, 12, 13, 14, 15, 16, 17, 18, 19, 20, 21, 22, 23, 24, 25, 26, 27, 28, 29, 30, 31, 32, 33, 34, 35, 36, 37, 38, 39, 40, 41, 42, 43, 44, 45, 46, 47, 48, 49, 50, 51, 52, 53, 54, 55, 56, 57, 58, 59, 60, 61, 62, 63, 64, 65] (by decide) rfl) hS ls (lv_sub hl [0, 1, 2, 3, 4] rfl)
        have h_164 : ln ≤ 400 := h_164
        have h_165 : X_bc_145 ≤ 10 := h_165
        have h_166 : X_w_148 ≤ 10 := h_166
        have h_167 : X_h_149 ≤ 10 := h_167
        have h_168 : sn ≤ 4 := h_168
        have h_169 : rOK 100 f_stair 24 := h_169
        have h_170 : lnm = ln := h_170
        have h_171 : X_bcm_158 = X_bc_145 := h_171
        have h_172 : X_wm_156 = X_w_148 := h_172
        have h_173 : X_hm_157 = X_h_149 := h_173
        have h_174 : f_tape = tf := h_174
        have h_175 : s_fault = fk := h_175
        have h_176 : s_faultPlace = fp := h_176
        have h_177 : X_f_low_161 = X_f1_150 := h_177
        have h_178 : X_f_high_162 = X_f2_151 := h_178
        have h_179 : X_f_crack_163 = X_f5_154 := h_179
        have h_180 : f_weight = B2 := h_180
        have h_181 : f_fire = B3 := h_181
        have h_182 : f_crowd = B4 := h_182
        have h_183 : f_state = B5 := h_183
        have h_184 : X_s_hours_159 = X_ho_146 := h_184
        have h_185 : X_s_fees_160 = X_fe_147 := h_185
        have h_186 : CI X_bc_145 X_w_148 X_h_149 B1 B2 B5 B6 B7 X_f3_152 X_f4_153 wt wh := h_186
        have h_187 : ∀ b, b < X_bc_145 → B5 b = 1 → f_where b = nI (wh b) := h_187
        have h_188 : Kc P cf1 cf2 cf3 cf4 sc := h_188
        have h_189 : Km P sn f_rule f_stair := h_189
        have h_190 : PB P := h_190
        have h_191 : ∀ c, c < 100 → 0 ≤ (X_f1_150 c).toInt ∧ (X_f1_150 c).toInt ≤ 99 := h_191
        have h_192 : ∀ c, ¬ (c % 10 < X_w_148 ∧ c / 10 < X_h_149) → X_f5_154 c = 0 := h_192
        have h_193 : SB P := h_193
        have h_194 : ∀ b, b < X_bc_145 → B4 b = nI (cwU B4 b) ∧ cwU B4 b ≤ 99 := h_194
        refine lv_iinc (v := nI (7 * t + 7)) (lv' := [(4, Value.int (nI (7 * t + 7))), (0, Value.ref b), (1, Value.ref h0), (2, Value.ref mo), (3, Value.ref qo)]) hx hb dL_law_683 hl (k := 4) rfl (nI_add (7 * t) 7) (by decide) rfl (fun ls hl => ?_)
        rw [show 7 * t + 7 = 7 * (t + 1) from rfl] at hl
        have hl : lv_has ls 7 [(4, Value.int (nI (7 * (t + 1)))), (0, Value.ref b), (1, Value.ref h0), (2, Value.ref mo), (3, Value.ref qo)] := hl
        refine lv_goto (tgt := 23) hx hb dL_law_686 (by decide) ?_
        refine W.widen (k := 67 + (t + 1)) (n := 3176 + 6 * (t + 1)) (by omega) (by omega) ?_
        exact ih ln tf lnm X_s_thrown_155 f_tape fk fp tx rl nx tk sa vl fv dsc dto ef1 ef2 ef3 ef4 sc to cf1 cf2 cf3 cf4 sn s_readStairs s_fault s_faultPlace s_end s_next s_kind s_which s_place s_read f_stair f_rules f_told f_rule P X_bc_145 X_ho_146 X_fe_147 X_w_148 X_h_149 X_f1_150 X_f2_151 X_f3_152 X_f4_153 X_f5_154 X_wm_156 X_hm_157 X_bcm_158 X_s_hours_159 X_s_fees_160 X_f_low_161 X_f_high_162 X_f_crack_163 B1 B2 B3 B4 B5 B6 B7 f_weight f_fire f_crowd f_state wt f_where wh f6 f_breaks lk wn on ab l1 l2 l3 l4 l5 s_looks f_row f_tried qd cr s1 s2 s3 s4 f_steps f_paths fo (t + 1) (by omega) (by omega) (by omega) (by omega) (by omega) h_169 (by omega) (by omega) (by omega) (by omega) h_174 h_175 h_176 h_177 h_178 h_179 h_180 h_181 h_182 h_183 h_184 h_185 h_186 h_187 h_188 h_189 h_190 h_191 h_192 h_193 h_194 (by omega) (by omega) (by omega) H locs (hP.sub [0, 1, 2, 3, 4, 5, 6, 7, 8, 9, 10, 11, 12, 13, 14, 15, 16, 17, 18, 19, 20, 21, 22, 23, 24, 25, 26, 27, 28, 29, 30, 31, 32, 33, 34, 35, 36, 37, 38, 39, 40, 41, 42, 43, 44, 45, 46, 47, 48, 49, 50, 51, 52, 53, 54, 55, 56, 57, 58, 59, 60, 61, 62, 63, 64, 65] rfl) (hD.sub [0, 1, 2, 3, 4, 5, 6, 7, 8, 9, 10, 11, 12, 13, 14, 15, 16, 17, 18, 19, 20, 21, 22, 23, 24, 25, 26, 27, 28, 29, 30, 31, 32, 33, 34, 35, 36, 37, 38, 39, 40, 41, 42, 43, 44, 45, 46, 47, 48, 49, 50, 51, 52, 53, 54, 55, 56, 57, 58, 59, 60, 61, 62, 63, 64, 65] (by decide) rfl) hS ls (lv_sub hl [1, 2, 3, 4, 0] rfl)
      by_cases w_6_4 : z_5 = 4
      · skip
        subst w_6_4
        refine lv_tableIn (tgt := 276) hx hb dL_law_40 (by decide) (by decide) rfl (by decide) ?_
        have hl : lv_has ls 7 [(0, Value.ref b), (1, Value.ref h0), (2, Value.ref mo), (3, Value.ref qo), (4, Value.int (nI (7 * t)))] := hl
        refine lw_case_276 F hA bo B1 B2 B3 B4 B5 B6 B7 h0 tp rd dr fa ly wy tp1 ln tc tf fk fp va tx rl nx tk sa vl vc fv dr1 dr2 dr3 dr4 dsc dto ec1 ef1 ec2 ef2 ec3 ef3 ec4 ef4 cu rv bt bc ho fe cu1 cu2 cu3 cu4 sc to cc1 cf1 cc2 cf2 cc3 cf3 cc4 cf4 w h q1 q2 q3 q4 q5 q6 cy1 f1 cy2 f2 cy3 f3 cy4 f4 cy5 f5 cy6 f6 bc9 lk ly1 wn ly2 ly3 ly4 on ly5 ab lc1 l1 lc2 l2 lc3 l3 lc4 l4 lc5 l5 wy1 wy2 qd wy3 wy4 cr wc1 s1 wc2 s2 wc3 s3 wc4 s4 mo m_tape lnm s_thrown m_rule m_rules sn m_stair s_readStairs s_fault s_faultPlace wm hm m_low m_high m_crack bcm m_weight m_fire m_crowd m_state m_where s_hours s_fees s_looks m_words s_end s_next s_kind s_which s_place s_read m_told m_breaks m_row m_tried m_steps m_paths y_tape f_tape y_rule f_rule y_rules f_rules y_stair f_stair y_low f_low y_high f_high y_crack f_crack y_weight f_weight y_fire f_fire y_crowd f_crowd y_state f_state y_where f_where y_words y_told f_told y_breaks f_breaks y_row f_row y_tried f_tried y_steps f_steps y_paths f_paths qo yo fo (7 * t) (67 + t) (3176 + 6 * t) us e1 e2 e3 e4 en kk b L xs wt wh P (hK.sub [0, 1, 2, 3, 4, 5, 6, 7, 8, 9, 10, 11, 12, 13, 14, 15, 16, 17, 18, 19, 20, 21, 22, 23, 24, 25, 26, 27, 28, 29, 30, 31, 32, 33, 34, 35, 36, 37, 38, 39, 40, 41, 42, 43, 44, 45] rfl) hXC hXE hXs hbl hbA hlt (fun X_f1_195 X_f2_196 X_s_thrown_197 X_f_low_198 X_f_high_199 h_200 h_201 h_202 h_203 h_204 h_205 h_206 h_207 h_208 h_209 h_210 h_211 h_212 h_213 h_214 h_215 h_216 h_217 h_218 h_219 h_220 h_221 h_222 h_223 h_224 h_225 h_226 h_227 h_228 h_229 h_230 H locs hP hD hS ls hl => ?_) _  (by omega) (by omega) (by omega) (by omega) (by omega) hst (by omega) (by omega) (by omega) (by omega) i_tf i_fk i_fp i_lo i_hi i_ck i_we i_fi i_cr i_st i_ho i_fe i_CI i_wr i_Kc i_Km i_PB i_lb i_ou i_SB i_cb (by omega) (by omega) (by omega) (by omega) (Nat.lt_succ_self _) _ _ (hP.sub [0, 1, 2, 3, 4, 5, 6, 7, 8, 9, 10, 11, 12, 13, 14, 15, 16, 17, 18, 19, 20, 21, 22, 23, 24, 25, 26, 27, 28, 29, 30, 31, 32, 33, 34, 35, 36, 37, 38, 39, 40, 41, 42, 43, 44, 45, 46, 47, 48, 49, 50, 51, 52, 53, 54, 55, 56, 57, 58, 59, 60, 61, 62, 63, 64, 65] rfl) (hD.sub [0, 1, 2, 3, 4, 5, 6, 7, 8, 9, 10, 11, 12, 13, 14, 15, 16, 17, 18, 19, 20, 21, 22, 23, 24, 25, 26, 27, 28, 29, 30, 31, 32, 33, 34, 35, 36, 37, 38, 39, 40, 41, 42, 43, 44, 45, 46, 47, 48, 49, 50, 51, 52, 53, 54, 55, 56, 57, 58, 59, 60, 61, 62, 63, 64, 65] (by decide) rfl) hS ls (lv_sub hl [0, 1, 2, 3, 4] rfl)
        have h_200 : ln ≤ 400 := h_200
        have h_201 : bc ≤ 10 := h_201
        have h_202 : w ≤ 10 := h_202
        have h_203 : h ≤ 10 := h_203
        have h_204 : sn ≤ 4 := h_204
        have h_205 : rOK 100 f_stair 24 := h_205
        have h_206 : lnm = ln := h_206
        have h_207 : bcm = bc := h_207
        have h_208 : wm = w := h_208
        have h_209 : hm = h := h_209
        have h_210 : f_tape = tf := h_210
        have h_211 : s_fault = fk := h_211
        have h_212 : s_faultPlace = fp := h_212
        have h_213 : X_f_low_198 = X_f1_195 := h_213
        have h_214 : X_f_high_199 = X_f2_196 := h_214
        have h_215 : f_crack = f5 := h_215
        have h_216 : f_weight = B2 := h_216
        have h_217 : f_fire = B3 := h_217
        have h_218 : f_crowd = B4 := h_218
        have h_219 : f_state = B5 := h_219
        have h_220 : s_hours = ho := h_220
        have h_221 : s_fees = fe := h_221
        have h_222 : CI bc w h B1 B2 B5 B6 B7 f3 f4 wt wh := h_222
        have h_223 : ∀ b, b < bc → B5 b = 1 → f_where b = nI (wh b) := h_223
        have h_224 : Kc P cf1 cf2 cf3 cf4 sc := h_224
        have h_225 : Km P sn f_rule f_stair := h_225
        have h_226 : PB P := h_226
        have h_227 : ∀ c, c < 100 → 0 ≤ (X_f1_195 c).toInt ∧ (X_f1_195 c).toInt ≤ 99 := h_227
        have h_228 : ∀ c, ¬ (c % 10 < w ∧ c / 10 < h) → f5 c = 0 := h_228
        have h_229 : SB P := h_229
        have h_230 : ∀ b, b < bc → B4 b = nI (cwU B4 b) ∧ cwU B4 b ≤ 99 := h_230
        refine lv_iinc (v := nI (7 * t + 7)) (lv' := [(4, Value.int (nI (7 * t + 7))), (0, Value.ref b), (1, Value.ref h0), (2, Value.ref mo), (3, Value.ref qo)]) hx hb dL_law_683 hl (k := 4) rfl (nI_add (7 * t) 7) (by decide) rfl (fun ls hl => ?_)
        rw [show 7 * t + 7 = 7 * (t + 1) from rfl] at hl
        have hl : lv_has ls 7 [(4, Value.int (nI (7 * (t + 1)))), (0, Value.ref b), (1, Value.ref h0), (2, Value.ref mo), (3, Value.ref qo)] := hl
        refine lv_goto (tgt := 23) hx hb dL_law_686 (by decide) ?_
        refine W.widen (k := 67 + (t + 1)) (n := 3176 + 6 * (t + 1)) (by omega) (by omega) ?_
        exact ih ln tf lnm X_s_thrown_197 f_tape fk fp tx rl nx tk sa vl fv dsc dto ef1 ef2 ef3 ef4 sc to cf1 cf2 cf3 cf4 sn s_readStairs s_fault s_faultPlace s_end s_next s_kind s_which s_place s_read f_stair f_rules f_told f_rule P bc ho fe w h X_f1_195 X_f2_196 f3 f4 f5 wm hm bcm s_hours s_fees X_f_low_198 X_f_high_199 f_crack B1 B2 B3 B4 B5 B6 B7 f_weight f_fire f_crowd f_state wt f_where wh f6 f_breaks lk wn on ab l1 l2 l3 l4 l5 s_looks f_row f_tried qd cr s1 s2 s3 s4 f_steps f_paths fo (t + 1) (by omega) (by omega) (by omega) (by omega) (by omega) h_205 (by omega) (by omega) (by omega) (by omega) h_210 h_211 h_212 h_213 h_214 h_215 h_216 h_217 h_218 h_219 h_220 h_221 h_222 h_223 h_224 h_225 h_226 h_227 h_228 h_229 h_230 (by omega) (by omega) (by omega) H locs (hP.sub [0, 1, 2, 3, 4, 5, 6, 7, 8, 9, 10, 11, 12, 13, 14, 15, 16, 17, 18, 19, 20, 21, 22, 23, 24, 25, 26, 27, 28, 29, 30, 31, 32, 33, 34, 35, 36, 37, 38, 39, 40, 41, 42, 43, 44, 45, 46, 47, 48, 49, 50, 51, 52, 53, 54, 55, 56, 57, 58, 59, 60, 61, 62, 63, 64, 65] rfl) (hD.sub [0, 1, 2, 3, 4, 5, 6, 7, 8, 9, 10, 11, 12, 13, 14, 15, 16, 17, 18, 19, 20, 21, 22, 23, 24, 25, 26, 27, 28, 29, 30, 31, 32, 33, 34, 35, 36, 37, 38, 39, 40, 41, 42, 43, 44, 45, 46, 47, 48, 49, 50, 51, 52, 53, 54, 55, 56, 57, 58, 59, 60, 61, 62, 63, 64, 65] (by decide) rfl) hS ls (lv_sub hl [1, 2, 3, 4, 0] rfl)
      by_cases w_6_5 : z_5 = 5
      · skip
        subst w_6_5
        refine lv_tableIn (tgt := 363) hx hb dL_law_40 (by decide) (by decide) rfl (by decide) ?_
        have hl : lv_has ls 7 [(0, Value.ref b), (1, Value.ref h0), (2, Value.ref mo), (3, Value.ref qo), (4, Value.int (nI (7 * t)))] := hl
        refine lw_case_363 F hA bo B1 B2 B3 B4 B5 B6 B7 h0 tp rd dr fa ly wy tp1 ln tc tf fk fp va tx rl nx tk sa vl vc fv dr1 dr2 dr3 dr4 dsc dto ec1 ef1 ec2 ef2 ec3 ef3 ec4 ef4 cu rv bt bc ho fe cu1 cu2 cu3 cu4 sc to cc1 cf1 cc2 cf2 cc3 cf3 cc4 cf4 w h q1 q2 q3 q4 q5 q6 cy1 f1 cy2 f2 cy3 f3 cy4 f4 cy5 f5 cy6 f6 bc9 lk ly1 wn ly2 ly3 ly4 on ly5 ab lc1 l1 lc2 l2 lc3 l3 lc4 l4 lc5 l5 wy1 wy2 qd wy3 wy4 cr wc1 s1 wc2 s2 wc3 s3 wc4 s4 mo m_tape lnm s_thrown m_rule m_rules sn m_stair s_readStairs s_fault s_faultPlace wm hm m_low m_high m_crack bcm m_weight m_fire m_crowd m_state m_where s_hours s_fees s_looks m_words s_end s_next s_kind s_which s_place s_read m_told m_breaks m_row m_tried m_steps m_paths y_tape f_tape y_rule f_rule y_rules f_rules y_stair f_stair y_low f_low y_high f_high y_crack f_crack y_weight f_weight y_fire f_fire y_crowd f_crowd y_state f_state y_where f_where y_words y_told f_told y_breaks f_breaks y_row f_row y_tried f_tried y_steps f_steps y_paths f_paths qo yo fo (7 * t) (67 + t) (3176 + 6 * t) us e1 e2 e3 e4 en kk b L xs wt wh P (hK.sub [0, 1, 2, 3, 4, 5, 6, 7, 8, 9, 10, 11, 12, 13, 14, 15, 16, 17, 18, 19, 20, 21, 22, 23, 24, 25, 26, 27, 28, 29, 30, 31, 32, 33, 34, 35, 36, 37, 38, 39, 40, 41, 42, 43, 44, 45] rfl) hXC hXE hXs hbl hbA hlt (fun X_B1_231 X_B2_232 X_B3_233 X_B4_234 X_B5_235 X_B6_236 X_B7_237 X_bc_238 X_s_thrown_239 X_bcm_240 X_f_weight_241 X_f_fire_242 X_f_crowd_243 X_f_state_244 X_wt_245 h_246 h_247 h_248 h_249 h_250 h_251 h_252 h_253 h_254 h_255 h_256 h_257 h_258 h_259 h_260 h_261 h_262 h_263 h_264 h_265 h_266 h_267 h_268 h_269 h_270 h_271 h_272 h_273 h_274 h_275 h_276 H locs hP hD hS ls hl => ?_) _  (by omega) (by omega) (by omega) (by omega) (by omega) hst (by omega) (by omega) (by omega) (by omega) i_tf i_fk i_fp i_lo i_hi i_ck i_we i_fi i_cr i_st i_ho i_fe i_CI i_wr i_Kc i_Km i_PB i_lb i_ou i_SB i_cb (by omega) (by omega) (by omega) (by omega) (Nat.lt_succ_self _) _ _ (hP.sub [0, 1, 2, 3, 4, 5, 6, 7, 8, 9, 10, 11, 12, 13, 14, 15, 16, 17, 18, 19, 20, 21, 22, 23, 24, 25, 26, 27, 28, 29, 30, 31, 32, 33, 34, 35, 36, 37, 38, 39, 40, 41, 42, 43, 44, 45, 46, 47, 48, 49, 50, 51, 52, 53, 54, 55, 56, 57, 58, 59, 60, 61, 62, 63, 64, 65] rfl) (hD.sub [0, 1, 2, 3, 4, 5, 6, 7, 8, 9, 10, 11, 12, 13, 14, 15, 16, 17, 18, 19, 20, 21, 22, 23, 24, 25, 26, 27, 28, 29, 30, 31, 32, 33, 34, 35, 36, 37, 38, 39, 40, 41, 42, 43, 44, 45, 46, 47, 48, 49, 50, 51, 52, 53, 54, 55, 56, 57, 58, 59, 60, 61, 62, 63, 64, 65] (by decide) rfl) hS ls (lv_sub hl [0, 1, 2, 3, 4] rfl)
        have h_246 : ln ≤ 400 := h_246
        have h_247 : X_bc_238 ≤ 10 := h_247
        have h_248 : w ≤ 10 := h_248
        have h_249 : h ≤ 10 := h_249
        have h_250 : sn ≤ 4 := h_250
        have h_251 : rOK 100 f_stair 24 := h_251
        have h_252 : lnm = ln := h_252
        have h_253 : X_bcm_240 = X_bc_238 := h_253
        have h_254 : wm = w := h_254
        have h_255 : hm = h := h_255
        have h_256 : f_tape = tf := h_256
        have h_257 : s_fault = fk := h_257
        have h_258 : s_faultPlace = fp := h_258
        have h_259 : f_low = f1 := h_259
        have h_260 : f_high = f2 := h_260
        have h_261 : f_crack = f5 := h_261
        have h_262 : X_f_weight_241 = X_B2_232 := h_262
        have h_263 : X_f_fire_242 = X_B3_233 := h_263
        have h_264 : X_f_crowd_243 = X_B4_234 := h_264
        have h_265 : X_f_state_244 = X_B5_235 := h_265
        have h_266 : s_hours = ho := h_266
        have h_267 : s_fees = fe := h_267
        have h_268 : CI X_bc_238 w h X_B1_231 X_B2_232 X_B5_235 X_B6_236 X_B7_237 f3 f4 X_wt_245 wh := h_268
        have h_269 : ∀ b, b < X_bc_238 → X_B5_235 b = 1 → f_where b = nI (wh b) := h_269
        have h_270 : Kc P cf1 cf2 cf3 cf4 sc := h_270
        have h_271 : Km P sn f_rule f_stair := h_271
        have h_272 : PB P := h_272
        have h_273 : ∀ c, c < 100 → 0 ≤ (f1 c).toInt ∧ (f1 c).toInt ≤ 99 := h_273
        have h_274 : ∀ c, ¬ (c % 10 < w ∧ c / 10 < h) → f5 c = 0 := h_274
        have h_275 : SB P := h_275
        have h_276 : ∀ b, b < X_bc_238 → X_B4_234 b = nI (cwU X_B4_234 b) ∧ cwU X_B4_234 b ≤ 99 := h_276
        refine lv_iinc (v := nI (7 * t + 7)) (lv' := [(4, Value.int (nI (7 * t + 7))), (0, Value.ref b), (1, Value.ref h0), (2, Value.ref mo), (3, Value.ref qo)]) hx hb dL_law_683 hl (k := 4) rfl (nI_add (7 * t) 7) (by decide) rfl (fun ls hl => ?_)
        rw [show 7 * t + 7 = 7 * (t + 1) from rfl] at hl
        have hl : lv_has ls 7 [(4, Value.int (nI (7 * (t + 1)))), (0, Value.ref b), (1, Value.ref h0), (2, Value.ref mo), (3, Value.ref qo)] := hl
        refine lv_goto (tgt := 23) hx hb dL_law_686 (by decide) ?_
        refine W.widen (k := 67 + (t + 1)) (n := 3176 + 6 * (t + 1)) (by omega) (by omega) ?_
        exact ih ln tf lnm X_s_thrown_239 f_tape fk fp tx rl nx tk sa vl fv dsc dto ef1 ef2 ef3 ef4 sc to cf1 cf2 cf3 cf4 sn s_readStairs s_fault s_faultPlace s_end s_next s_kind s_which s_place s_read f_stair f_rules f_told f_rule P X_bc_238 ho fe w h f1 f2 f3 f4 f5 wm hm X_bcm_240 s_hours s_fees f_low f_high f_crack X_B1_231 X_B2_232 X_B3_233 X_B4_234 X_B5_235 X_B6_236 X_B7_237 X_f_weight_241 X_f_fire_242 X_f_crowd_243 X_f_state_244 X_wt_245 f_where wh f6 f_breaks lk wn on ab l1 l2 l3 l4 l5 s_looks f_row f_tried qd cr s1 s2 s3 s4 f_steps f_paths fo (t + 1) (by omega) (by omega) (by omega) (by omega) (by omega) h_251 (by omega) (by omega) (by omega) (by omega) h_256 h_257 h_258 h_259 h_260 h_261 h_262 h_263 h_264 h_265 h_266 h_267 h_268 h_269 h_270 h_271 h_272 h_273 h_274 h_275 h_276 (by omega) (by omega) (by omega) H locs (hP.sub [0, 1, 2, 3, 4, 5, 6, 7, 8, 9, 10, 11, 12, 13, 14, 15, 16, 17, 18, 19, 20, 21, 22, 23, 24, 25, 26, 27, 28, 29, 30, 31, 32, 33, 34, 35, 36, 37, 38, 39, 40, 41, 42, 43, 44, 45, 46, 47, 48, 49, 50, 51, 52, 53, 54, 55, 56, 57, 58, 59, 60, 61, 62, 63, 64, 65] rfl) (hD.sub [0, 1, 2, 3, 4, 5, 6, 7, 8, 9, 10, 11, 12, 13, 14, 15, 16, 17, 18, 19, 20, 21, 22, 23, 24, 25, 26, 27, 28, 29, 30, 31, 32, 33, 34, 35, 36, 37, 38, 39, 40, 41, 42, 43, 44, 45, 46, 47, 48, 49, 50, 51, 52, 53, 54, 55, 56, 57, 58, 59, 60, 61, 62, 63, 64, 65] (by decide) rfl) hS ls (lv_sub hl [1, 2, 3, 4, 0] rfl)
      by_cases w_6_6 : z_5 = 6
      · skip
        subst w_6_6
        refine lv_tableIn (tgt := 428) hx hb dL_law_40 (by decide) (by decide) rfl (by decide) ?_
        have hl : lv_has ls 7 [(0, Value.ref b), (1, Value.ref h0), (2, Value.ref mo), (3, Value.ref qo), (4, Value.int (nI (7 * t)))] := hl
        refine lw_case_428 F hA bo B1 B2 B3 B4 B5 B6 B7 h0 tp rd dr fa ly wy tp1 ln tc tf fk fp va tx rl nx tk sa vl vc fv dr1 dr2 dr3 dr4 dsc dto ec1 ef1 ec2 ef2 ec3 ef3 ec4 ef4 cu rv bt bc ho fe cu1 cu2 cu3 cu4 sc to cc1 cf1 cc2 cf2 cc3 cf3 cc4 cf4 w h q1 q2 q3 q4 q5 q6 cy1 f1 cy2 f2 cy3 f3 cy4 f4 cy5 f5 cy6 f6 bc9 lk ly1 wn ly2 ly3 ly4 on ly5 ab lc1 l1 lc2 l2 lc3 l3 lc4 l4 lc5 l5 wy1 wy2 qd wy3 wy4 cr wc1 s1 wc2 s2 wc3 s3 wc4 s4 mo m_tape lnm s_thrown m_rule m_rules sn m_stair s_readStairs s_fault s_faultPlace wm hm m_low m_high m_crack bcm m_weight m_fire m_crowd m_state m_where s_hours s_fees s_looks m_words s_end s_next s_kind s_which s_place s_read m_told m_breaks m_row m_tried m_steps m_paths y_tape f_tape y_rule f_rule y_rules f_rules y_stair f_stair y_low f_low y_high f_high y_crack f_crack y_weight f_weight y_fire f_fire y_crowd f_crowd y_state f_state y_where f_where y_words y_told f_told y_breaks f_breaks y_row f_row y_tried f_tried y_steps f_steps y_paths f_paths qo yo fo (7 * t) (67 + t) (3176 + 6 * t) us e1 e2 e3 e4 en kk b L xs wt wh P (hK.sub [0, 1, 2, 3, 4, 5, 6, 7, 8, 9, 10, 11, 12, 13, 14, 15, 16, 17, 18, 19, 20, 21, 22, 23, 24, 25, 26, 27, 28, 29, 30, 31, 32, 33, 34, 35, 36, 37, 38, 39, 40, 41, 42, 43, 44, 45] rfl) hXC hXE hXs hbl hbA hlt (fun X_B5_277 X_B6_278 X_B7_279 X_fe_280 X_f3_281 X_f4_282 X_s_thrown_283 X_s_fees_284 X_f_state_285 X_f_where_286 X_wh_287 h_288 h_289 h_290 h_291 h_292 h_293 h_294 h_295 h_296 h_297 h_298 h_299 h_300 h_301 h_302 h_303 h_304 h_305 h_306 h_307 h_308 h_309 h_310 h_311 h_312 h_313 h_314 h_315 h_316 h_317 h_318 H locs hP hD hS ls hl => ?_) _  (by omega) (by omega) (by omega) (by omega) (by omega) hst (by omega) (by omega) (by omega) (by omega) i_tf i_fk i_fp i_lo i_hi i_ck i_we i_fi i_cr i_st i_ho i_fe i_CI i_wr i_Kc i_Km i_PB i_lb i_ou i_SB i_cb (by omega) (by omega) (by omega) (by omega) (Nat.lt_succ_self _) _ _ (hP.sub [0, 1, 2, 3, 4, 5, 6, 7, 8, 9, 10, 11, 12, 13, 14, 15, 16, 17, 18, 19, 20, 21, 22, 23, 24, 25, 26, 27, 28, 29, 30, 31, 32, 33, 34, 35, 36, 37, 38, 39, 40, 41, 42, 43, 44, 45, 46, 47, 48, 49, 50, 51, 52, 53, 54, 55, 56, 57, 58, 59, 60, 61, 62, 63, 64, 65] rfl) (hD.sub [0, 1, 2, 3, 4, 5, 6, 7, 8, 9, 10, 11, 12, 13, 14, 15, 16, 17, 18, 19, 20, 21, 22, 23, 24, 25, 26, 27, 28, 29, 30, 31, 32, 33, 34, 35, 36, 37, 38, 39, 40, 41, 42, 43, 44, 45, 46, 47, 48, 49, 50, 51, 52, 53, 54, 55, 56, 57, 58, 59, 60, 61, 62, 63, 64, 65] (by decide) rfl) hS ls (lv_sub hl [0, 1, 2, 3, 4] rfl)
        have h_288 : ln ≤ 400 := h_288
        have h_289 : bc ≤ 10 := h_289
        have h_290 : w ≤ 10 := h_290
        have h_291 : h ≤ 10 := h_291
        have h_292 : sn ≤ 4 := h_292
        have h_293 : rOK 100 f_stair 24 := h_293
        have h_294 : lnm = ln := h_294
        have h_295 : bcm = bc := h_295
        have h_296 : wm = w := h_296
        have h_297 : hm = h := h_297
        have h_298 : f_tape = tf := h_298
        have h_299 : s_fault = fk := h_299
        have h_300 : s_faultPlace = fp := h_300
        have h_301 : f_low = f1 := h_301
        have h_302 : f_high = f2 := h_302
        have h_303 : f_crack = f5 := h_303
        have h_304 : f_weight = B2 := h_304
        have h_305 : f_fire = B3 := h_305
        have h_306 : f_crowd = B4 := h_306
        have h_307 : X_f_state_285 = X_B5_277 := h_307
        have h_308 : s_hours = ho := h_308
        have h_309 : X_s_fees_284 = X_fe_280 := h_309
        have h_310 : CI bc w h B1 B2 X_B5_277 X_B6_278 X_B7_279 X_f3_281 X_f4_282 wt X_wh_287 := h_310
        have h_311 : ∀ b, b < bc → X_B5_277 b = 1 → X_f_where_286 b = nI (X_wh_287 b) := h_311
        have h_312 : Kc P cf1 cf2 cf3 cf4 sc := h_312
        have h_313 : Km P sn f_rule f_stair := h_313
        have h_314 : PB P := h_314
        have h_315 : ∀ c, c < 100 → 0 ≤ (f1 c).toInt ∧ (f1 c).toInt ≤ 99 := h_315
        have h_316 : ∀ c, ¬ (c % 10 < w ∧ c / 10 < h) → f5 c = 0 := h_316
        have h_317 : SB P := h_317
        have h_318 : ∀ b, b < bc → B4 b = nI (cwU B4 b) ∧ cwU B4 b ≤ 99 := h_318
        refine lv_iinc (v := nI (7 * t + 7)) (lv' := [(4, Value.int (nI (7 * t + 7))), (0, Value.ref b), (1, Value.ref h0), (2, Value.ref mo), (3, Value.ref qo)]) hx hb dL_law_683 hl (k := 4) rfl (nI_add (7 * t) 7) (by decide) rfl (fun ls hl => ?_)
        rw [show 7 * t + 7 = 7 * (t + 1) from rfl] at hl
        have hl : lv_has ls 7 [(4, Value.int (nI (7 * (t + 1)))), (0, Value.ref b), (1, Value.ref h0), (2, Value.ref mo), (3, Value.ref qo)] := hl
        refine lv_goto (tgt := 23) hx hb dL_law_686 (by decide) ?_
        refine W.widen (k := 67 + (t + 1)) (n := 3176 + 6 * (t + 1)) (by omega) (by omega) ?_
        exact ih ln tf lnm X_s_thrown_283 f_tape fk fp tx rl nx tk sa vl fv dsc dto ef1 ef2 ef3 ef4 sc to cf1 cf2 cf3 cf4 sn s_readStairs s_fault s_faultPlace s_end s_next s_kind s_which s_place s_read f_stair f_rules f_told f_rule P bc ho X_fe_280 w h f1 f2 X_f3_281 X_f4_282 f5 wm hm bcm s_hours X_s_fees_284 f_low f_high f_crack B1 B2 B3 B4 X_B5_277 X_B6_278 X_B7_279 f_weight f_fire f_crowd X_f_state_285 wt X_f_where_286 X_wh_287 f6 f_breaks lk wn on ab l1 l2 l3 l4 l5 s_looks f_row f_tried qd cr s1 s2 s3 s4 f_steps f_paths fo (t + 1) (by omega) (by omega) (by omega) (by omega) (by omega) h_293 (by omega) (by omega) (by omega) (by omega) h_298 h_299 h_300 h_301 h_302 h_303 h_304 h_305 h_306 h_307 h_308 h_309 h_310 h_311 h_312 h_313 h_314 h_315 h_316 h_317 h_318 (by omega) (by omega) (by omega) H locs (hP.sub [0, 1, 2, 3, 4, 5, 6, 7, 8, 9, 10, 11, 12, 13, 14, 15, 16, 17, 18, 19, 20, 21, 22, 23, 24, 25, 26, 27, 28, 29, 30, 31, 32, 33, 34, 35, 36, 37, 38, 39, 40, 41, 42, 43, 44, 45, 46, 47, 48, 49, 50, 51, 52, 53, 54, 55, 56, 57, 58, 59, 60, 61, 62, 63, 64, 65] rfl) (hD.sub [0, 1, 2, 3, 4, 5, 6, 7, 8, 9, 10, 11, 12, 13, 14, 15, 16, 17, 18, 19, 20, 21, 22, 23, 24, 25, 26, 27, 28, 29, 30, 31, 32, 33, 34, 35, 36, 37, 38, 39, 40, 41, 42, 43, 44, 45, 46, 47, 48, 49, 50, 51, 52, 53, 54, 55, 56, 57, 58, 59, 60, 61, 62, 63, 64, 65] (by decide) rfl) hS ls (lv_sub hl [1, 2, 3, 4, 0] rfl)
      by_cases w_6_7 : z_5 = 7
      · skip
        subst w_6_7
        refine lv_tableIn (tgt := 477) hx hb dL_law_40 (by decide) (by decide) rfl (by decide) ?_
        have hl : lv_has ls 7 [(0, Value.ref b), (1, Value.ref h0), (2, Value.ref mo), (3, Value.ref qo), (4, Value.int (nI (7 * t)))] := hl
        refine lw_case_477 F hA bo B1 B2 B3 B4 B5 B6 B7 h0 tp rd dr fa ly wy tp1 ln tc tf fk fp va tx rl nx tk sa vl vc fv dr1 dr2 dr3 dr4 dsc dto ec1 ef1 ec2 ef2 ec3 ef3 ec4 ef4 cu rv bt bc ho fe cu1 cu2 cu3 cu4 sc to cc1 cf1 cc2 cf2 cc3 cf3 cc4 cf4 w h q1 q2 q3 q4 q5 q6 cy1 f1 cy2 f2 cy3 f3 cy4 f4 cy5 f5 cy6 f6 bc9 lk ly1 wn ly2 ly3 ly4 on ly5 ab lc1 l1 lc2 l2 lc3 l3 lc4 l4 lc5 l5 wy1 wy2 qd wy3 wy4 cr wc1 s1 wc2 s2 wc3 s3 wc4 s4 mo m_tape lnm s_thrown m_rule m_rules sn m_stair s_readStairs s_fault s_faultPlace wm hm m_low m_high m_crack bcm m_weight m_fire m_crowd m_state m_where s_hours s_fees s_looks m_words s_end s_next s_kind s_which s_place s_read m_told m_breaks m_row m_tried m_steps m_paths y_tape f_tape y_rule f_rule y_rules f_rules y_stair f_stair y_low f_low y_high f_high y_crack f_crack y_weight f_weight y_fire f_fire y_crowd f_crowd y_state f_state y_where f_where y_words y_told f_told y_breaks f_breaks y_row f_row y_tried f_tried y_steps f_steps y_paths f_paths qo yo fo (7 * t) (67 + t) (3176 + 6 * t) us e1 e2 e3 e4 en kk b L xs wt wh P (hK.sub [0, 1, 2, 3, 4, 5, 6, 7, 8, 9, 10, 11, 12, 13, 14, 15, 16, 17, 18, 19, 20, 21, 22, 23, 24, 25, 26, 27, 28, 29, 30, 31, 32, 33, 34, 35, 36, 37, 38, 39, 40, 41, 42, 43, 44, 45] rfl) hXC hXE hXs hbl hbA hlt (fun X_B5_319 X_B6_320 X_B7_321 X_f3_322 X_f4_323 X_s_thrown_324 X_f_state_325 h_326 h_327 h_328 h_329 h_330 h_331 h_332 h_333 h_334 h_335 h_336 h_337 h_338 h_339 h_340 h_341 h_342 h_343 h_344 h_345 h_346 h_347 h_348 h_349 h_350 h_351 h_352 h_353 h_354 h_355 h_356 H locs hP hD hS ls hl => ?_) _  (by omega) (by omega) (by omega) (by omega) (by omega) hst (by omega) (by omega) (by omega) (by omega) i_tf i_fk i_fp i_lo i_hi i_ck i_we i_fi i_cr i_st i_ho i_fe i_CI i_wr i_Kc i_Km i_PB i_lb i_ou i_SB i_cb (by omega) (by omega) (by omega) (by omega) (Nat.lt_succ_self _) _ _ (hP.sub [0, 1, 2, 3, 4, 5, 6, 7, 8, 9, 10, 11, 12, 13, 14, 15, 16, 17, 18, 19, 20, 21, 22, 23, 24, 25, 26, 27, 28, 29, 30, 31, 32, 33, 34, 35, 36, 37, 38, 39, 40, 41, 42, 43, 44, 45, 46, 47, 48, 49, 50, 51, 52, 53, 54, 55, 56, 57, 58, 59, 60, 61, 62, 63, 64, 65] rfl) (hD.sub [0, 1, 2, 3, 4, 5, 6, 7, 8, 9, 10, 11, 12, 13, 14, 15, 16, 17, 18, 19, 20, 21, 22, 23, 24, 25, 26, 27, 28, 29, 30, 31, 32, 33, 34, 35, 36, 37, 38, 39, 40, 41, 42, 43, 44, 45, 46, 47, 48, 49, 50, 51, 52, 53, 54, 55, 56, 57, 58, 59, 60, 61, 62, 63, 64, 65] (by decide) rfl) hS ls (lv_sub hl [0, 1, 2, 3, 4] rfl)
        have h_326 : ln ≤ 400 := h_326
        have h_327 : bc ≤ 10 := h_327
        have h_328 : w ≤ 10 := h_328
        have h_329 : h ≤ 10 := h_329
        have h_330 : sn ≤ 4 := h_330
        have h_331 : rOK 100 f_stair 24 := h_331
        have h_332 : lnm = ln := h_332
        have h_333 : bcm = bc := h_333
        have h_334 : wm = w := h_334
        have h_335 : hm = h := h_335
        have h_336 : f_tape = tf := h_336
        have h_337 : s_fault = fk := h_337
        have h_338 : s_faultPlace = fp := h_338
        have h_339 : f_low = f1 := h_339
        have h_340 : f_high = f2 := h_340
        have h_341 : f_crack = f5 := h_341
        have h_342 : f_weight = B2 := h_342
        have h_343 : f_fire = B3 := h_343
        have h_344 : f_crowd = B4 := h_344
        have h_345 : X_f_state_325 = X_B5_319 := h_345
        have h_346 : s_hours = ho := h_346
        have h_347 : s_fees = fe := h_347
        have h_348 : CI bc w h B1 B2 X_B5_319 X_B6_320 X_B7_321 X_f3_322 X_f4_323 wt wh := h_348
        have h_349 : ∀ b, b < bc → X_B5_319 b = 1 → f_where b = nI (wh b) := h_349
        have h_350 : Kc P cf1 cf2 cf3 cf4 sc := h_350
        have h_351 : Km P sn f_rule f_stair := h_351
        have h_352 : PB P := h_352
        have h_353 : ∀ c, c < 100 → 0 ≤ (f1 c).toInt ∧ (f1 c).toInt ≤ 99 := h_353
        have h_354 : ∀ c, ¬ (c % 10 < w ∧ c / 10 < h) → f5 c = 0 := h_354
        have h_355 : SB P := h_355
        have h_356 : ∀ b, b < bc → B4 b = nI (cwU B4 b) ∧ cwU B4 b ≤ 99 := h_356
        refine lv_iinc (v := nI (7 * t + 7)) (lv' := [(4, Value.int (nI (7 * t + 7))), (0, Value.ref b), (1, Value.ref h0), (2, Value.ref mo), (3, Value.ref qo)]) hx hb dL_law_683 hl (k := 4) rfl (nI_add (7 * t) 7) (by decide) rfl (fun ls hl => ?_)
        rw [show 7 * t + 7 = 7 * (t + 1) from rfl] at hl
        have hl : lv_has ls 7 [(4, Value.int (nI (7 * (t + 1)))), (0, Value.ref b), (1, Value.ref h0), (2, Value.ref mo), (3, Value.ref qo)] := hl
        refine lv_goto (tgt := 23) hx hb dL_law_686 (by decide) ?_
        refine W.widen (k := 67 + (t + 1)) (n := 3176 + 6 * (t + 1)) (by omega) (by omega) ?_
        exact ih ln tf lnm X_s_thrown_324 f_tape fk fp tx rl nx tk sa vl fv dsc dto ef1 ef2 ef3 ef4 sc to cf1 cf2 cf3 cf4 sn s_readStairs s_fault s_faultPlace s_end s_next s_kind s_which s_place s_read f_stair f_rules f_told f_rule P bc ho fe w h f1 f2 X_f3_322 X_f4_323 f5 wm hm bcm s_hours s_fees f_low f_high f_crack B1 B2 B3 B4 X_B5_319 X_B6_320 X_B7_321 f_weight f_fire f_crowd X_f_state_325 wt f_where wh f6 f_breaks lk wn on ab l1 l2 l3 l4 l5 s_looks f_row f_tried qd cr s1 s2 s3 s4 f_steps f_paths fo (t + 1) (by omega) (by omega) (by omega) (by omega) (by omega) h_331 (by omega) (by omega) (by omega) (by omega) h_336 h_337 h_338 h_339 h_340 h_341 h_342 h_343 h_344 h_345 h_346 h_347 h_348 h_349 h_350 h_351 h_352 h_353 h_354 h_355 h_356 (by omega) (by omega) (by omega) H locs (hP.sub [0, 1, 2, 3, 4, 5, 6, 7, 8, 9, 10, 11, 12, 13, 14, 15, 16, 17, 18, 19, 20, 21, 22, 23, 24, 25, 26, 27, 28, 29, 30, 31, 32, 33, 34, 35, 36, 37, 38, 39, 40, 41, 42, 43, 44, 45, 46, 47, 48, 49, 50, 51, 52, 53, 54, 55, 56, 57, 58, 59, 60, 61, 62, 63, 64, 65] rfl) (hD.sub [0, 1, 2, 3, 4, 5, 6, 7, 8, 9, 10, 11, 12, 13, 14, 15, 16, 17, 18, 19, 20, 21, 22, 23, 24, 25, 26, 27, 28, 29, 30, 31, 32, 33, 34, 35, 36, 37, 38, 39, 40, 41, 42, 43, 44, 45, 46, 47, 48, 49, 50, 51, 52, 53, 54, 55, 56, 57, 58, 59, 60, 61, 62, 63, 64, 65] (by decide) rfl) hS ls (lv_sub hl [1, 2, 3, 4, 0] rfl)
      by_cases w_6_8 : z_5 = 8
      · skip
        subst w_6_8
        refine lv_tableIn (tgt := 502) hx hb dL_law_40 (by decide) (by decide) rfl (by decide) ?_
        have hl : lv_has ls 7 [(0, Value.ref b), (1, Value.ref h0), (2, Value.ref mo), (3, Value.ref qo), (4, Value.int (nI (7 * t)))] := hl
        refine lw_case_502 F hA bo B1 B2 B3 B4 B5 B6 B7 h0 tp rd dr fa ly wy tp1 ln tc tf fk fp va tx rl nx tk sa vl vc fv dr1 dr2 dr3 dr4 dsc dto ec1 ef1 ec2 ef2 ec3 ef3 ec4 ef4 cu rv bt bc ho fe cu1 cu2 cu3 cu4 sc to cc1 cf1 cc2 cf2 cc3 cf3 cc4 cf4 w h q1 q2 q3 q4 q5 q6 cy1 f1 cy2 f2 cy3 f3 cy4 f4 cy5 f5 cy6 f6 bc9 lk ly1 wn ly2 ly3 ly4 on ly5 ab lc1 l1 lc2 l2 lc3 l3 lc4 l4 lc5 l5 wy1 wy2 qd wy3 wy4 cr wc1 s1 wc2 s2 wc3 s3 wc4 s4 mo m_tape lnm s_thrown m_rule m_rules sn m_stair s_readStairs s_fault s_faultPlace wm hm m_low m_high m_crack bcm m_weight m_fire m_crowd m_state m_where s_hours s_fees s_looks m_words s_end s_next s_kind s_which s_place s_read m_told m_breaks m_row m_tried m_steps m_paths y_tape f_tape y_rule f_rule y_rules f_rules y_stair f_stair y_low f_low y_high f_high y_crack f_crack y_weight f_weight y_fire f_fire y_crowd f_crowd y_state f_state y_where f_where y_words y_told f_told y_breaks f_breaks y_row f_row y_tried f_tried y_steps f_steps y_paths f_paths qo yo fo (7 * t) (67 + t) (3176 + 6 * t) us e1 e2 e3 e4 en kk b L xs wt wh P (hK.sub [0, 1, 2, 3, 4, 5, 6, 7, 8, 9, 10, 11, 12, 13, 14, 15, 16, 17, 18, 19, 20, 21, 22, 23, 24, 25, 26, 27, 28, 29, 30, 31, 32, 33, 34, 35, 36, 37, 38, 39, 40, 41, 42, 43, 44, 45] rfl) hXC hXE hXs hbl hbA hlt (fun X_B5_357 X_B6_358 X_B7_359 X_ho_360 X_f1_361 X_f2_362 X_f3_363 X_f4_364 X_f5_365 X_f6_366 X_s_thrown_367 X_s_hours_368 X_f_low_369 X_f_high_370 X_f_crack_371 X_f_breaks_372 X_f_state_373 h_374 h_375 h_376 h_377 h_378 h_379 h_380 h_381 h_382 h_383 h_384 h_385 h_386 h_387 h_388 h_389 h_390 h_391 h_392 h_393 h_394 h_395 h_396 h_397 h_398 h_399 h_400 h_401 h_402 h_403 h_404 H locs hP hD hS ls hl => ?_) _  (by omega) (by omega) (by omega) (by omega) (by omega) hst (by omega) (by omega) (by omega) (by omega) i_tf i_fk i_fp i_lo i_hi i_ck i_we i_fi i_cr i_st i_ho i_fe i_CI i_wr i_Kc i_Km i_PB i_lb i_ou i_SB i_cb (by omega) (by omega) (by omega) (by omega) (Nat.lt_succ_self _) _ _ (hP.sub [0, 1, 2, 3, 4, 5, 6, 7, 8, 9, 10, 11, 12, 13, 14, 15, 16, 17, 18, 19, 20, 21, 22, 23, 24, 25, 26, 27, 28, 29, 30, 31, 32, 33, 34, 35, 36, 37, 38, 39, 40, 41, 42, 43, 44, 45, 46, 47, 48, 49, 50, 51, 52, 53, 54, 55, 56, 57, 58, 59, 60, 61, 62, 63, 64, 65] rfl) (hD.sub [0, 1, 2, 3, 4, 5, 6, 7, 8, 9, 10, 11, 12, 13, 14, 15, 16, 17, 18, 19, 20, 21, 22, 23, 24, 25, 26, 27, 28, 29, 30, 31, 32, 33, 34, 35, 36, 37, 38, 39, 40, 41, 42, 43, 44, 45, 46, 47, 48, 49, 50, 51, 52, 53, 54, 55, 56, 57, 58, 59, 60, 61, 62, 63, 64, 65] (by decide) rfl) hS ls (lv_sub hl [0, 1, 2, 3, 4] rfl)
        have h_374 : ln ≤ 400 := h_374
        have h_375 : bc ≤ 10 := h_375
        have h_376 : w ≤ 10 := h_376
        have h_377 : h ≤ 10 := h_377
        have h_378 : sn ≤ 4 := h_378
        have h_379 : rOK 100 f_stair 24 := h_379
        have h_380 : lnm = ln := h_380
        have h_381 : bcm = bc := h_381
        have h_382 : wm = w := h_382
        have h_383 : hm = h := h_383
        have h_384 : f_tape = tf := h_384
        have h_385 : s_fault = fk := h_385
        have h_386 : s_faultPlace = fp := h_386
        have h_387 : X_f_low_369 = X_f1_361 := h_387
        have h_388 : X_f_high_370 = X_f2_362 := h_388
        have h_389 : X_f_crack_371 = X_f5_365 := h_389
        have h_390 : f_weight = B2 := h_390
        have h_391 : f_fire = B3 := h_391
        have h_392 : f_crowd = B4 := h_392
        have h_393 : X_f_state_373 = X_B5_357 := h_393
        have h_394 : X_s_hours_368 = X_ho_360 := h_394
        have h_395 : s_fees = fe := h_395
        have h_396 : CI bc w h B1 B2 X_B5_357 X_B6_358 X_B7_359 X_f3_363 X_f4_364 wt wh := h_396
        have h_397 : ∀ b, b < bc → X_B5_357 b = 1 → f_where b = nI (wh b) := h_397
        have h_398 : Kc P cf1 cf2 cf3 cf4 sc := h_398
        have h_399 : Km P sn f_rule f_stair := h_399
        have h_400 : PB P := h_400
        have h_401 : ∀ c, c < 100 → 0 ≤ (X_f1_361 c).toInt ∧ (X_f1_361 c).toInt ≤ 99 := h_401
        have h_402 : ∀ c, ¬ (c % 10 < w ∧ c / 10 < h) → X_f5_365 c = 0 := h_402
        have h_403 : SB P := h_403
        have h_404 : ∀ b, b < bc → B4 b = nI (cwU B4 b) ∧ cwU B4 b ≤ 99 := h_404
        refine lv_iinc (v := nI (7 * t + 7)) (lv' := [(4, Value.int (nI (7 * t + 7))), (0, Value.ref b), (1, Value.ref h0), (2, Value.ref mo), (3, Value.ref qo)]) hx hb dL_law_683 hl (k := 4) rfl (nI_add (7 * t) 7) (by decide) rfl (fun ls hl => ?_)
        rw [show 7 * t + 7 = 7 * (t + 1) from rfl] at hl
        have hl : lv_has ls 7 [(4, Value.int (nI (7 * (t + 1)))), (0, Value.ref b), (1, Value.ref h0), (2, Value.ref mo), (3, Value.ref qo)] := hl
        refine lv_goto (tgt := 23) hx hb dL_law_686 (by decide) ?_
        refine W.widen (k := 67 + (t + 1)) (n := 3176 + 6 * (t + 1)) (by omega) (by omega) ?_
        exact ih ln tf lnm X_s_thrown_367 f_tape fk fp tx rl nx tk sa vl fv dsc dto ef1 ef2 ef3 ef4 sc to cf1 cf2 cf3 cf4 sn s_readStairs s_fault s_faultPlace s_end s_next s_kind s_which s_place s_read f_stair f_rules f_told f_rule P bc X_ho_360 fe w h X_f1_361 X_f2_362 X_f3_363 X_f4_364 X_f5_365 wm hm bcm X_s_hours_368 s_fees X_f_low_369 X_f_high_370 X_f_crack_371 B1 B2 B3 B4 X_B5_357 X_B6_358 X_B7_359 f_weight f_fire f_crowd X_f_state_373 wt f_where wh X_f6_366 X_f_breaks_372 lk wn on ab l1 l2 l3 l4 l5 s_looks f_row f_tried qd cr s1 s2 s3 s4 f_steps f_paths fo (t + 1) (by omega) (by omega) (by omega) (by omega) (by omega) h_379 (by omega) (by omega) (by omega) (by omega) h_384 h_385 h_386 h_387 h_388 h_389 h_390 h_391 h_392 h_393 h_394 h_395 h_396 h_397 h_398 h_399 h_400 h_401 h_402 h_403 h_404 (by omega) (by omega) (by omega) H locs (hP.sub [0, 1, 2, 3, 4, 5, 6, 7, 8, 9, 10, 11, 12, 13, 14, 15, 16, 17, 18, 19, 20, 21, 22, 23, 24, 25, 26, 27, 28, 29, 30, 31, 32, 33, 34, 35, 36, 37, 38, 39, 40, 41, 42, 43, 44, 45, 46, 47, 48, 49, 50, 51, 52, 53, 54, 55, 56, 57, 58, 59, 60, 61, 62, 63, 64, 65] rfl) (hD.sub [0, 1, 2, 3, 4, 5, 6, 7, 8, 9, 10, 11, 12, 13, 14, 15, 16, 17, 18, 19, 20, 21, 22, 23, 24, 25, 26, 27, 28, 29, 30, 31, 32, 33, 34, 35, 36, 37, 38, 39, 40, 41, 42, 43, 44, 45, 46, 47, 48, 49, 50, 51, 52, 53, 54, 55, 56, 57, 58, 59, 60, 61, 62, 63, 64, 65] (by decide) rfl) hS ls (lv_sub hl [1, 2, 3, 4, 0] rfl)
      by_cases w_6_9 : z_5 = 9
      · skip
        subst w_6_9
        refine lv_tableIn (tgt := 527) hx hb dL_law_40 (by decide) (by decide) rfl (by decide) ?_
        have hl : lv_has ls 7 [(0, Value.ref b), (1, Value.ref h0), (2, Value.ref mo), (3, Value.ref qo), (4, Value.int (nI (7 * t)))] := hl
        refine lw_case_527 F hA bo B1 B2 B3 B4 B5 B6 B7 h0 tp rd dr fa ly wy tp1 ln tc tf fk fp va tx rl nx tk sa vl vc fv dr1 dr2 dr3 dr4 dsc dto ec1 ef1 ec2 ef2 ec3 ef3 ec4 ef4 cu rv bt bc ho fe cu1 cu2 cu3 cu4 sc to cc1 cf1 cc2 cf2 cc3 cf3 cc4 cf4 w h q1 q2 q3 q4 q5 q6 cy1 f1 cy2 f2 cy3 f3 cy4 f4 cy5 f5 cy6 f6 bc9 lk ly1 wn ly2 ly3 ly4 on ly5 ab lc1 l1 lc2 l2 lc3 l3 lc4 l4 lc5 l5 wy1 wy2 qd wy3 wy4 cr wc1 s1 wc2 s2 wc3 s3 wc4 s4 mo m_tape lnm s_thrown m_rule m_rules sn m_stair s_readStairs s_fault s_faultPlace wm hm m_low m_high m_crack bcm m_weight m_fire m_crowd m_state m_where s_hours s_fees s_looks m_words s_end s_next s_kind s_which s_place s_read m_told m_breaks m_row m_tried m_steps m_paths y_tape f_tape y_rule f_rule y_rules f_rules y_stair f_stair y_low f_low y_high f_high y_crack f_crack y_weight f_weight y_fire f_fire y_crowd f_crowd y_state f_state y_where f_where y_words y_told f_told y_breaks f_breaks y_row f_row y_tried f_tried y_steps f_steps y_paths f_paths qo yo fo (7 * t) (67 + t) (3176 + 6 * t) us e1 e2 e3 e4 en kk b L xs wt wh P (hK.sub [0, 1, 2, 3, 4, 5, 6, 7, 8, 9, 10, 11, 12, 13, 14, 15, 16, 17, 18, 19, 20, 21, 22, 23, 24, 25, 26, 27, 28, 29, 30, 31, 32, 33, 34, 35, 36, 37, 38, 39, 40, 41, 42, 43, 44, 45] rfl) hXC hXE hXs hbl hbA hlt (fun X_B5_405 X_B6_406 X_B7_407 X_fe_408 X_f3_409 X_f4_410 X_lk_411 X_wn_412 X_on_413 X_ab_414 X_l1_415 X_l2_416 X_l3_417 X_l4_418 X_l5_419 X_s_thrown_420 X_s_fees_421 X_s_looks_422 X_f_row_423 X_f_tried_424 X_f_state_425 X_f_where_426 X_wh_427 h_428 h_429 h_430 h_431 h_432 h_433 h_434 h_435 h_436 h_437 h_438 h_439 h_440 h_441 h_442 h_443 h_444 h_445 h_446 h_447 h_448 h_449 h_450 h_451 h_452 h_453 h_454 h_455 h_456 h_457 h_458 H locs hP hD hS ls hl => ?_) _  (by omega) (by omega) (by omega) (by omega) (by omega) hst (by omega) (by omega) (by omega) (by omega) i_tf i_fk i_fp i_lo i_hi i_ck i_we i_fi i_cr i_st i_ho i_fe i_CI i_wr i_Kc i_Km i_PB i_lb i_ou i_SB i_cb (by omega) (by omega) (by omega) (by omega) (Nat.lt_succ_self _) _ _ (hP.sub [0, 1, 2, 3, 4, 5, 6, 7, 8, 9, 10, 11, 12, 13, 14, 15, 16, 17, 18, 19, 20, 21, 22, 23, 24, 25, 26, 27, 28, 29, 30, 31, 32, 33, 34, 35, 36, 37, 38, 39, 40, 41, 42, 43, 44, 45, 46, 47, 48, 49, 50, 51, 52, 53, 54, 55, 56, 57, 58, 59, 60, 61, 62, 63, 64, 65] rfl) (hD.sub [0, 1, 2, 3, 4, 5, 6, 7, 8, 9, 10, 11, 12, 13, 14, 15, 16, 17, 18, 19, 20, 21, 22, 23, 24, 25, 26, 27, 28, 29, 30, 31, 32, 33, 34, 35, 36, 37, 38, 39, 40, 41, 42, 43, 44, 45, 46, 47, 48, 49, 50, 51, 52, 53, 54, 55, 56, 57, 58, 59, 60, 61, 62, 63, 64, 65] (by decide) rfl) hS ls (lv_sub hl [0, 1, 2, 3, 4] rfl)
        have h_428 : ln ≤ 400 := h_428
        have h_429 : bc ≤ 10 := h_429
        have h_430 : w ≤ 10 := h_430
        have h_431 : h ≤ 10 := h_431
        have h_432 : sn ≤ 4 := h_432
        have h_433 : rOK 100 f_stair 24 := h_433
        have h_434 : lnm = ln := h_434
        have h_435 : bcm = bc := h_435
        have h_436 : wm = w := h_436
        have h_437 : hm = h := h_437
        have h_438 : f_tape = tf := h_438
        have h_439 : s_fault = fk := h_439
        have h_440 : s_faultPlace = fp := h_440
        have h_441 : f_low = f1 := h_441
        have h_442 : f_high = f2 := h_442
        have h_443 : f_crack = f5 := h_443
        have h_444 : f_weight = B2 := h_444
        have h_445 : f_fire = B3 := h_445
        have h_446 : f_crowd = B4 := h_446
        have h_447 : X_f_state_425 = X_B5_405 := h_447
        have h_448 : s_hours = ho := h_448
        have h_449 : X_s_fees_421 = X_fe_408 := h_449
        have h_450 : CI bc w h B1 B2 X_B5_405 X_B6_406 X_B7_407 X_f3_409 X_f4_410 wt X_wh_427 := h_450
        have h_451 : ∀ b, b < bc → X_B5_405 b = 1 → X_f_where_426 b = nI (X_wh_427 b) := h_451
        have h_452 : Kc P cf1 cf2 cf3 cf4 sc := h_452
        have h_453 : Km P sn f_rule f_stair := h_453
        have h_454 : PB P := h_454
        have h_455 : ∀ c, c < 100 → 0 ≤ (f1 c).toInt ∧ (f1 c).toInt ≤ 99 := h_455
        have h_456 : ∀ c, ¬ (c % 10 < w ∧ c / 10 < h) → f5 c = 0 := h_456
        have h_457 : SB P := h_457
        have h_458 : ∀ b, b < bc → B4 b = nI (cwU B4 b) ∧ cwU B4 b ≤ 99 := h_458
        refine lv_iinc (v := nI (7 * t + 7)) (lv' := [(4, Value.int (nI (7 * t + 7))), (0, Value.ref b), (1, Value.ref h0), (2, Value.ref mo), (3, Value.ref qo)]) hx hb dL_law_683 hl (k := 4) rfl (nI_add (7 * t) 7) (by decide) rfl (fun ls hl => ?_)
        rw [show 7 * t + 7 = 7 * (t + 1) from rfl] at hl
        have hl : lv_has ls 7 [(4, Value.int (nI (7 * (t + 1)))), (0, Value.ref b), (1, Value.ref h0), (2, Value.ref mo), (3, Value.ref qo)] := hl
        refine lv_goto (tgt := 23) hx hb dL_law_686 (by decide) ?_
        refine W.widen (k := 67 + (t + 1)) (n := 3176 + 6 * (t + 1)) (by omega) (by omega) ?_
        exact ih ln tf lnm X_s_thrown_420 f_tape fk fp tx rl nx tk sa vl fv dsc dto ef1 ef2 ef3 ef4 sc to cf1 cf2 cf3 cf4 sn s_readStairs s_fault s_faultPlace s_end s_next s_kind s_which s_place s_read f_stair f_rules f_told f_rule P bc ho X_fe_408 w h f1 f2 X_f3_409 X_f4_410 f5 wm hm bcm s_hours X_s_fees_421 f_low f_high f_crack B1 B2 B3 B4 X_B5_405 X_B6_406 X_B7_407 f_weight f_fire f_crowd X_f_state_425 wt X_f_where_426 X_wh_427 f6 f_breaks X_lk_411 X_wn_412 X_on_413 X_ab_414 X_l1_415 X_l2_416 X_l3_417 X_l4_418 X_l5_419 X_s_looks_422 X_f_row_423 X_f_tried_424 qd cr s1 s2 s3 s4 f_steps f_paths fo (t + 1) (by omega) (by omega) (by omega) (by omega) (by omega) h_433 (by omega) (by omega) (by omega) (by omega) h_438 h_439 h_440 h_441 h_442 h_443 h_444 h_445 h_446 h_447 h_448 h_449 h_450 h_451 h_452 h_453 h_454 h_455 h_456 h_457 h_458 (by omega) (by omega) (by omega) H locs (hP.sub [0, 1, 2, 3, 4, 5, 6, 7, 8, 9, 10, 11, 12, 13, 14, 15, 16, 17, 18, 19, 20, 21, 22, 23, 24, 25, 26, 27, 28, 29, 30, 31, 32, 33, 34, 35, 36, 37, 38, 39, 40, 41, 42, 43, 44, 45, 46, 47, 48, 49, 50, 51, 52, 53, 54, 55, 56, 57, 58, 59, 60, 61, 62, 63, 64, 65] rfl) (hD.sub [0, 1, 2, 3, 4, 5, 6, 7, 8, 9, 10, 11, 12, 13, 14, 15, 16, 17, 18, 19, 20, 21, 22, 23, 24, 25, 26, 27, 28, 29, 30, 31, 32, 33, 34, 35, 36, 37, 38, 39, 40, 41, 42, 43, 44, 45, 46, 47, 48, 49, 50, 51, 52, 53, 54, 55, 56, 57, 58, 59, 60, 61, 62, 63, 64, 65] (by decide) rfl) hS ls (lv_sub hl [1, 2, 3, 4, 0] rfl)
      by_cases w_6_10 : z_5 = 10
      · skip
        subst w_6_10
        refine lv_tableIn (tgt := 540) hx hb dL_law_40 (by decide) (by decide) rfl (by decide) ?_
        have hl : lv_has ls 7 [(0, Value.ref b), (1, Value.ref h0), (2, Value.ref mo), (3, Value.ref qo), (4, Value.int (nI (7 * t)))] := hl
        refine lw_case_540 F hA bo B1 B2 B3 B4 B5 B6 B7 h0 tp rd dr fa ly wy tp1 ln tc tf fk fp va tx rl nx tk sa vl vc fv dr1 dr2 dr3 dr4 dsc dto ec1 ef1 ec2 ef2 ec3 ef3 ec4 ef4 cu rv bt bc ho fe cu1 cu2 cu3 cu4 sc to cc1 cf1 cc2 cf2 cc3 cf3 cc4 cf4 w h q1 q2 q3 q4 q5 q6 cy1 f1 cy2 f2 cy3 f3 cy4 f4 cy5 f5 cy6 f6 bc9 lk ly1 wn ly2 ly3 ly4 on ly5 ab lc1 l1 lc2 l2 lc3 l3 lc4 l4 lc5 l5 wy1 wy2 qd wy3 wy4 cr wc1 s1 wc2 s2 wc3 s3 wc4 s4 mo m_tape lnm s_thrown m_rule m_rules sn m_stair s_readStairs s_fault s_faultPlace wm hm m_low m_high m_crack bcm m_weight m_fire m_crowd m_state m_where s_hours s_fees s_looks m_words s_end s_next s_kind s_which s_place s_read m_told m_breaks m_row m_tried m_steps m_paths y_tape f_tape y_rule f_rule y_rules f_rules y_stair f_stair y_low f_low y_high f_high y_crack f_crack y_weight f_weight y_fire f_fire y_crowd f_crowd y_state f_state y_where f_where y_words y_told f_told y_breaks f_breaks y_row f_row y_tried f_tried y_steps f_steps y_paths f_paths qo yo fo (7 * t) (67 + t) (3176 + 6 * t) us e1 e2 e3 e4 en kk b L xs wt wh P (hK.sub [0, 1, 2, 3, 4, 5, 6, 7, 8, 9, 10, 11, 12, 13, 14, 15, 16, 17, 18, 19, 20, 21, 22, 23, 24, 25, 26, 27, 28, 29, 30, 31, 32, 33, 34, 35, 36, 37, 38, 39, 40, 41, 42, 43, 44, 45] rfl) hXC hXE hXs hbl hbA hlt (fun X_qd_459 X_cr_460 X_s1_461 X_s2_462 X_s3_463 X_s4_464 X_s_thrown_465 X_f_steps_466 X_f_paths_467 h_468 h_469 h_470 h_471 h_472 h_473 h_474 h_475 h_476 h_477 h_478 h_479 h_480 h_481 h_482 h_483 h_484 h_485 h_486 h_487 h_488 h_489 h_490 h_491 h_492 h_493 h_494 h_495 h_496 h_497 h_498 H locs hP hD hS ls hl => ?_) _  (by omega) (by omega) (by omega) (by omega) (by omega) hst (by omega) (by omega) (by omega) (by omega) i_tf i_fk i_fp i_lo i_hi i_ck i_we i_fi i_cr i_st i_ho i_fe i_CI i_wr i_Kc i_Km i_PB i_lb i_ou i_SB i_cb (by omega) (by omega) (by omega) (by omega) (Nat.lt_succ_self _) _ _ (hP.sub [0, 1, 2, 3, 4, 5, 6, 7, 8, 9, 10, 11, 12, 13, 14, 15, 16, 17, 18, 19, 20, 21, 22, 23, 24, 25, 26, 27, 28, 29, 30, 31, 32, 33, 34, 35, 36, 37, 38, 39, 40, 41, 42, 43, 44, 45, 46, 47, 48, 49, 50, 51, 52, 53, 54, 55, 56, 57, 58, 59, 60, 61, 62, 63, 64, 65] rfl) (hD.sub [0, 1, 2, 3, 4, 5, 6, 7, 8, 9, 10, 11, 12, 13, 14, 15, 16, 17, 18, 19, 20, 21, 22, 23, 24, 25, 26, 27, 28, 29, 30, 31, 32, 33, 34, 35, 36, 37, 38, 39, 40, 41, 42, 43, 44, 45, 46, 47, 48, 49, 50, 51, 52, 53, 54, 55, 56, 57, 58, 59, 60, 61, 62, 63, 64, 65] (by decide) rfl) hS ls (lv_sub hl [0, 1, 2, 3, 4] rfl)
        have h_468 : ln ≤ 400 := h_468
        have h_469 : bc ≤ 10 := h_469
        have h_470 : w ≤ 10 := h_470
        have h_471 : h ≤ 10 := h_471
        have h_472 : sn ≤ 4 := h_472
        have h_473 : rOK 100 f_stair 24 := h_473
        have h_474 : lnm = ln := h_474
        have h_475 : bcm = bc := h_475
        have h_476 : wm = w := h_476
        have h_477 : hm = h := h_477
        have h_478 : f_tape = tf := h_478
        have h_479 : s_fault = fk := h_479
        have h_480 : s_faultPlace = fp := h_480
        have h_481 : f_low = f1 := h_481
        have h_482 : f_high = f2 := h_482
        have h_483 : f_crack = f5 := h_483
        have h_484 : f_weight = B2 := h_484
        have h_485 : f_fire = B3 := h_485
        have h_486 : f_crowd = B4 := h_486
        have h_487 : f_state = B5 := h_487
        have h_488 : s_hours = ho := h_488
        have h_489 : s_fees = fe := h_489
        have h_490 : CI bc w h B1 B2 B5 B6 B7 f3 f4 wt wh := h_490
        have h_491 : ∀ b, b < bc → B5 b = 1 → f_where b = nI (wh b) := h_491
        have h_492 : Kc P cf1 cf2 cf3 cf4 sc := h_492
        have h_493 : Km P sn f_rule f_stair := h_493
        have h_494 : PB P := h_494
        have h_495 : ∀ c, c < 100 → 0 ≤ (f1 c).toInt ∧ (f1 c).toInt ≤ 99 := h_495
        have h_496 : ∀ c, ¬ (c % 10 < w ∧ c / 10 < h) → f5 c = 0 := h_496
        have h_497 : SB P := h_497
        have h_498 : ∀ b, b < bc → B4 b = nI (cwU B4 b) ∧ cwU B4 b ≤ 99 := h_498
        refine lv_iinc (v := nI (7 * t + 7)) (lv' := [(4, Value.int (nI (7 * t + 7))), (0, Value.ref b), (1, Value.ref h0), (2, Value.ref mo), (3, Value.ref qo)]) hx hb dL_law_683 hl (k := 4) rfl (nI_add (7 * t) 7) (by decide) rfl (fun ls hl => ?_)
        rw [show 7 * t + 7 = 7 * (t + 1) from rfl] at hl
        have hl : lv_has ls 7 [(4, Value.int (nI (7 * (t + 1)))), (0, Value.ref b), (1, Value.ref h0), (2, Value.ref mo), (3, Value.ref qo)] := hl
        refine lv_goto (tgt := 23) hx hb dL_law_686 (by decide) ?_
        refine W.widen (k := 67 + (t + 1)) (n := 3176 + 6 * (t + 1)) (by omega) (by omega) ?_
        exact ih ln tf lnm X_s_thrown_465 f_tape fk fp tx rl nx tk sa vl fv dsc dto ef1 ef2 ef3 ef4 sc to cf1 cf2 cf3 cf4 sn s_readStairs s_fault s_faultPlace s_end s_next s_kind s_which s_place s_read f_stair f_rules f_told f_rule P bc ho fe w h f1 f2 f3 f4 f5 wm hm bcm s_hours s_fees f_low f_high f_crack B1 B2 B3 B4 B5 B6 B7 f_weight f_fire f_crowd f_state wt f_where wh f6 f_breaks lk wn on ab l1 l2 l3 l4 l5 s_looks f_row f_tried X_qd_459 X_cr_460 X_s1_461 X_s2_462 X_s3_463 X_s4_464 X_f_steps_466 X_f_paths_467 fo (t + 1) (by omega) (by omega) (by omega) (by omega) (by omega) h_473 (by omega) (by omega) (by omega) (by omega) h_478 h_479 h_480 h_481 h_482 h_483 h_484 h_485 h_486 h_487 h_488 h_489 h_490 h_491 h_492 h_493 h_494 h_495 h_496 h_497 h_498 (by omega) (by omega) (by omega) H locs (hP.sub [0, 1, 2, 3, 4, 5, 6, 7, 8, 9, 10, 11, 12, 13, 14, 15, 16, 17, 18, 19, 20, 21, 22, 23, 24, 25, 26, 27, 28, 29, 30, 31, 32, 33, 34, 35, 36, 37, 38, 39, 40, 41, 42, 43, 44, 45, 46, 47, 48, 49, 50, 51, 52, 53, 54, 55, 56, 57, 58, 59, 60, 61, 62, 63, 64, 65] rfl) (hD.sub [0, 1, 2, 3, 4, 5, 6, 7, 8, 9, 10, 11, 12, 13, 14, 15, 16, 17, 18, 19, 20, 21, 22, 23, 24, 25, 26, 27, 28, 29, 30, 31, 32, 33, 34, 35, 36, 37, 38, 39, 40, 41, 42, 43, 44, 45, 46, 47, 48, 49, 50, 51, 52, 53, 54, 55, 56, 57, 58, 59, 60, 61, 62, 63, 64, 65] (by decide) rfl) hS ls (lv_sub hl [1, 2, 3, 4, 0] rfl)
      by_cases w_6_11 : z_5 = 11
      · skip
        subst w_6_11
        refine lv_tableIn (tgt := 553) hx hb dL_law_40 (by decide) (by decide) rfl (by decide) ?_
        have hl : lv_has ls 7 [(0, Value.ref b), (1, Value.ref h0), (2, Value.ref mo), (3, Value.ref qo), (4, Value.int (nI (7 * t)))] := hl
        refine lw_case_553 F hA bo B1 B2 B3 B4 B5 B6 B7 h0 tp rd dr fa ly wy tp1 ln tc tf fk fp va tx rl nx tk sa vl vc fv dr1 dr2 dr3 dr4 dsc dto ec1 ef1 ec2 ef2 ec3 ef3 ec4 ef4 cu rv bt bc ho fe cu1 cu2 cu3 cu4 sc to cc1 cf1 cc2 cf2 cc3 cf3 cc4 cf4 w h q1 q2 q3 q4 q5 q6 cy1 f1 cy2 f2 cy3 f3 cy4 f4 cy5 f5 cy6 f6 bc9 lk ly1 wn ly2 ly3 ly4 on ly5 ab lc1 l1 lc2 l2 lc3 l3 lc4 l4 lc5 l5 wy1 wy2 qd wy3 wy4 cr wc1 s1 wc2 s2 wc3 s3 wc4 s4 mo m_tape lnm s_thrown m_rule m_rules sn m_stair s_readStairs s_fault s_faultPlace wm hm m_low m_high m_crack bcm m_weight m_fire m_crowd m_state m_where s_hours s_fees s_looks m_words s_end s_next s_kind s_which s_place s_read m_told m_breaks m_row m_tried m_steps m_paths y_tape f_tape y_rule f_rule y_rules f_rules y_stair f_stair y_low f_low y_high f_high y_crack f_crack y_weight f_weight y_fire f_fire y_crowd f_crowd y_state f_state y_where f_where y_words y_told f_told y_breaks f_breaks y_row f_row y_tried f_tried y_steps f_steps y_paths f_paths qo yo fo (7 * t) (67 + t) (3176 + 6 * t) us e1 e2 e3 e4 en kk b L xs wt wh P (hK.sub [0, 1, 2, 3, 4, 5, 6, 7, 8, 9, 10, 11, 12, 13, 14, 15, 16, 17, 18, 19, 20, 21, 22, 23, 24, 25, 26, 27, 28, 29, 30, 31, 32, 33, 34, 35, 36, 37, 38, 39, 40, 41, 42, 43, 44, 45] rfl) hXC hXE hXs hbl hbA hlt (fun X_qd_499 X_cr_500 X_s1_501 X_s2_502 X_s3_503 X_s4_504 X_s_thrown_505 X_f_steps_506 X_f_paths_507 h_508 h_509 h_510 h_511 h_512 h_513 h_514 h_515 h_516 h_517 h_518 h_519 h_520 h_521 h_522 h_523 h_524 h_525 h_526 h_527 h_528 h_529 h_530 h_531 h_532 h_533 h_534 h_535 h_536 h_537 h_538 H locs hP hD hS ls hl => ?_) _  (by omega) (by omega) (by omega) (by omega) (by omega) hst (by omega) (by omega) (by omega) (by omega) i_tf i_fk i_fp i_lo i_hi i_ck i_we i_fi i_cr i_st i_ho i_fe i_CI i_wr i_Kc i_Km i_PB i_lb i_ou i_SB i_cb (by omega) (by omega) (by omega) (by omega) (Nat.lt_succ_self _) _ _ (hP.sub [0, 1, 2, 3, 4, 5, 6, 7, 8, 9, 10, 11, 12, 13, 14, 15, 16, 17, 18, 19, 20, 21, 22, 23, 24, 25, 26, 27, 28, 29, 30, 31, 32, 33, 34, 35, 36, 37, 38, 39, 40, 41, 42, 43, 44, 45, 46, 47, 48, 49, 50, 51, 52, 53, 54, 55, 56, 57, 58, 59, 60, 61, 62, 63, 64, 65] rfl) (hD.sub [0, 1, 2, 3, 4, 5, 6, 7, 8, 9, 10, 11, 12, 13, 14, 15, 16, 17, 18, 19, 20, 21, 22, 23, 24, 25, 26, 27, 28, 29, 30, 31, 32, 33, 34, 35, 36, 37, 38, 39, 40, 41, 42, 43, 44, 45, 46, 47, 48, 49, 50, 51, 52, 53, 54, 55, 56, 57, 58, 59, 60, 61, 62, 63, 64, 65] (by decide) rfl) hS ls (lv_sub hl [0, 1, 2, 3, 4] rfl)
        have h_508 : ln ≤ 400 := h_508
        have h_509 : bc ≤ 10 := h_509
        have h_510 : w ≤ 10 := h_510
        have h_511 : h ≤ 10 := h_511
        have h_512 : sn ≤ 4 := h_512
        have h_513 : rOK 100 f_stair 24 := h_513
        have h_514 : lnm = ln := h_514
        have h_515 : bcm = bc := h_515
        have h_516 : wm = w := h_516
        have h_517 : hm = h := h_517
        have h_518 : f_tape = tf := h_518
        have h_519 : s_fault = fk := h_519
        have h_520 : s_faultPlace = fp := h_520
        have h_521 : f_low = f1 := h_521
        have h_522 : f_high = f2 := h_522
        have h_523 : f_crack = f5 := h_523
        have h_524 : f_weight = B2 := h_524
        have h_525 : f_fire = B3 := h_525
        have h_526 : f_crowd = B4 := h_526
        have h_527 : f_state = B5 := h_527
        have h_528 : s_hours = ho := h_528
        have h_529 : s_fees = fe := h_529
        have h_530 : CI bc w h B1 B2 B5 B6 B7 f3 f4 wt wh := h_530
        have h_531 : ∀ b, b < bc → B5 b = 1 → f_where b = nI (wh b) := h_531
        have h_532 : Kc P cf1 cf2 cf3 cf4 sc := h_532
        have h_533 : Km P sn f_rule f_stair := h_533
        have h_534 : PB P := h_534
        have h_535 : ∀ c, c < 100 → 0 ≤ (f1 c).toInt ∧ (f1 c).toInt ≤ 99 := h_535
        have h_536 : ∀ c, ¬ (c % 10 < w ∧ c / 10 < h) → f5 c = 0 := h_536
        have h_537 : SB P := h_537
        have h_538 : ∀ b, b < bc → B4 b = nI (cwU B4 b) ∧ cwU B4 b ≤ 99 := h_538
        refine lv_iinc (v := nI (7 * t + 7)) (lv' := [(4, Value.int (nI (7 * t + 7))), (0, Value.ref b), (1, Value.ref h0), (2, Value.ref mo), (3, Value.ref qo)]) hx hb dL_law_683 hl (k := 4) rfl (nI_add (7 * t) 7) (by decide) rfl (fun ls hl => ?_)
        rw [show 7 * t + 7 = 7 * (t + 1) from rfl] at hl
        have hl : lv_has ls 7 [(4, Value.int (nI (7 * (t + 1)))), (0, Value.ref b), (1, Value.ref h0), (2, Value.ref mo), (3, Value.ref qo)] := hl
        refine lv_goto (tgt := 23) hx hb dL_law_686 (by decide) ?_
        refine W.widen (k := 67 + (t + 1)) (n := 3176 + 6 * (t + 1)) (by omega) (by omega) ?_
        exact ih ln tf lnm X_s_thrown_505 f_tape fk fp tx rl nx tk sa vl fv dsc dto ef1 ef2 ef3 ef4 sc to cf1 cf2 cf3 cf4 sn s_readStairs s_fault s_faultPlace s_end s_next s_kind s_which s_place s_read f_stair f_rules f_told f_rule P bc ho fe w h f1 f2 f3 f4 f5 wm hm bcm s_hours s_fees f_low f_high f_crack B1 B2 B3 B4 B5 B6 B7 f_weight f_fire f_crowd f_state wt f_where wh f6 f_breaks lk wn on ab l1 l2 l3 l4 l5 s_looks f_row f_tried X_qd_499 X_cr_500 X_s1_501 X_s2_502 X_s3_503 X_s4_504 X_f_steps_506 X_f_paths_507 fo (t + 1) (by omega) (by omega) (by omega) (by omega) (by omega) h_513 (by omega) (by omega) (by omega) (by omega) h_518 h_519 h_520 h_521 h_522 h_523 h_524 h_525 h_526 h_527 h_528 h_529 h_530 h_531 h_532 h_533 h_534 h_535 h_536 h_537 h_538 (by omega) (by omega) (by omega) H locs (hP.sub [0, 1, 2, 3, 4, 5, 6, 7, 8, 9, 10, 11, 12, 13, 14, 15, 16, 17, 18, 19, 20, 21, 22, 23, 24, 25, 26, 27, 28, 29, 30, 31, 32, 33, 34, 35, 36, 37, 38, 39, 40, 41, 42, 43, 44, 45, 46, 47, 48, 49, 50, 51, 52, 53, 54, 55, 56, 57, 58, 59, 60, 61, 62, 63, 64, 65] rfl) (hD.sub [0, 1, 2, 3, 4, 5, 6, 7, 8, 9, 10, 11, 12, 13, 14, 15, 16, 17, 18, 19, 20, 21, 22, 23, 24, 25, 26, 27, 28, 29, 30, 31, 32, 33, 34, 35, 36, 37, 38, 39, 40, 41, 42, 43, 44, 45, 46, 47, 48, 49, 50, 51, 52, 53, 54, 55, 56, 57, 58, 59, 60, 61, 62, 63, 64, 65] (by decide) rfl) hS ls (lv_sub hl [1, 2, 3, 4, 0] rfl)
      by_cases w_6_12 : z_5 = 12
      · skip
        subst w_6_12
        refine lv_tableIn (tgt := 566) hx hb dL_law_40 (by decide) (by decide) rfl (by decide) ?_
        have hl : lv_has ls 7 [(0, Value.ref b), (1, Value.ref h0), (2, Value.ref mo), (3, Value.ref qo), (4, Value.int (nI (7 * t)))] := hl
        refine lw_case_566 F hA bo B1 B2 B3 B4 B5 B6 B7 h0 tp rd dr fa ly wy tp1 ln tc tf fk fp va tx rl nx tk sa vl vc fv dr1 dr2 dr3 dr4 dsc dto ec1 ef1 ec2 ef2 ec3 ef3 ec4 ef4 cu rv bt bc ho fe cu1 cu2 cu3 cu4 sc to cc1 cf1 cc2 cf2 cc3 cf3 cc4 cf4 w h q1 q2 q3 q4 q5 q6 cy1 f1 cy2 f2 cy3 f3 cy4 f4 cy5 f5 cy6 f6 bc9 lk ly1 wn ly2 ly3 ly4 on ly5 ab lc1 l1 lc2 l2 lc3 l3 lc4 l4 lc5 l5 wy1 wy2 qd wy3 wy4 cr wc1 s1 wc2 s2 wc3 s3 wc4 s4 mo m_tape lnm s_thrown m_rule m_rules sn m_stair s_readStairs s_fault s_faultPlace wm hm m_low m_high m_crack bcm m_weight m_fire m_crowd m_state m_where s_hours s_fees s_looks m_words s_end s_next s_kind s_which s_place s_read m_told m_breaks m_row m_tried m_steps m_paths y_tape f_tape y_rule f_rule y_rules f_rules y_stair f_stair y_low f_low y_high f_high y_crack f_crack y_weight f_weight y_fire f_fire y_crowd f_crowd y_state f_state y_where f_where y_words y_told f_told y_breaks f_breaks y_row f_row y_tried f_tried y_steps f_steps y_paths f_paths qo yo fo (7 * t) (67 + t) (3176 + 6 * t) us e1 e2 e3 e4 en kk b L xs wt wh P (hK.sub [0, 1, 2, 3, 4, 5, 6, 7, 8, 9, 10, 11, 12, 13, 14, 15, 16, 17, 18, 19, 20, 21, 22, 23, 24, 25, 26, 27, 28, 29, 30, 31, 32, 33, 34, 35, 36, 37, 38, 39, 40, 41, 42, 43, 44, 45] rfl) hXC hXE hXs hbl hbA hlt (fun X_fo_539 X_s_thrown_540 h_541 h_542 h_543 h_544 h_545 h_546 h_547 h_548 h_549 h_550 h_551 h_552 h_553 h_554 h_555 h_556 h_557 h_558 h_559 h_560 h_561 h_562 h_563 h_564 h_565 h_566 h_567 h_568 h_569 h_570 h_571 H locs hP hD hS ls hl => ?_) _  (by omega) (by omega) (by omega) (by omega) (by omega) hst (by omega) (by omega) (by omega) (by omega) i_tf i_fk i_fp i_lo i_hi i_ck i_we i_fi i_cr i_st i_ho i_fe i_CI i_wr i_Kc i_Km i_PB i_lb i_ou i_SB i_cb (by omega) (by omega) (by omega) (by omega) (Nat.lt_succ_self _) _ _ (hP.sub [0, 1, 2, 3, 4, 5, 6, 7, 8, 9, 10, 11, 12, 13, 14, 15, 16, 17, 18, 19, 20, 21, 22, 23, 24, 25, 26, 27, 28, 29, 30, 31, 32, 33, 34, 35, 36, 37, 38, 39, 40, 41, 42, 43, 44, 45, 46, 47, 48, 49, 50, 51, 52, 53, 54, 55, 56, 57, 58, 59, 60, 61, 62, 63, 64, 65] rfl) (hD.sub [0, 1, 2, 3, 4, 5, 6, 7, 8, 9, 10, 11, 12, 13, 14, 15, 16, 17, 18, 19, 20, 21, 22, 23, 24, 25, 26, 27, 28, 29, 30, 31, 32, 33, 34, 35, 36, 37, 38, 39, 40, 41, 42, 43, 44, 45, 46, 47, 48, 49, 50, 51, 52, 53, 54, 55, 56, 57, 58, 59, 60, 61, 62, 63, 64, 65] (by decide) rfl) hS ls (lv_sub hl [0, 1, 2, 3, 4] rfl)
        have h_541 : ln ≤ 400 := h_541
        have h_542 : bc ≤ 10 := h_542
        have h_543 : w ≤ 10 := h_543
        have h_544 : h ≤ 10 := h_544
        have h_545 : sn ≤ 4 := h_545
        have h_546 : rOK 100 f_stair 24 := h_546
        have h_547 : lnm = ln := h_547
        have h_548 : bcm = bc := h_548
        have h_549 : wm = w := h_549
        have h_550 : hm = h := h_550
        have h_551 : f_tape = tf := h_551
        have h_552 : s_fault = fk := h_552
        have h_553 : s_faultPlace = fp := h_553
        have h_554 : f_low = f1 := h_554
        have h_555 : f_high = f2 := h_555
        have h_556 : f_crack = f5 := h_556
        have h_557 : f_weight = B2 := h_557
        have h_558 : f_fire = B3 := h_558
        have h_559 : f_crowd = B4 := h_559
        have h_560 : f_state = B5 := h_560
        have h_561 : s_hours = ho := h_561
        have h_562 : s_fees = fe := h_562
        have h_563 : CI bc w h B1 B2 B5 B6 B7 f3 f4 wt wh := h_563
        have h_564 : ∀ b, b < bc → B5 b = 1 → f_where b = nI (wh b) := h_564
        have h_565 : Kc P cf1 cf2 cf3 cf4 sc := h_565
        have h_566 : Km P sn f_rule f_stair := h_566
        have h_567 : PB P := h_567
        have h_568 : ∀ c, c < 100 → 0 ≤ (f1 c).toInt ∧ (f1 c).toInt ≤ 99 := h_568
        have h_569 : ∀ c, ¬ (c % 10 < w ∧ c / 10 < h) → f5 c = 0 := h_569
        have h_570 : SB P := h_570
        have h_571 : ∀ b, b < bc → B4 b = nI (cwU B4 b) ∧ cwU B4 b ≤ 99 := h_571
        refine lv_iinc (v := nI (7 * t + 7)) (lv' := [(4, Value.int (nI (7 * t + 7))), (0, Value.ref b), (1, Value.ref h0), (2, Value.ref mo), (3, Value.ref qo)]) hx hb dL_law_683 hl (k := 4) rfl (nI_add (7 * t) 7) (by decide) rfl (fun ls hl => ?_)
        rw [show 7 * t + 7 = 7 * (t + 1) from rfl] at hl
        have hl : lv_has ls 7 [(4, Value.int (nI (7 * (t + 1)))), (0, Value.ref b), (1, Value.ref h0), (2, Value.ref mo), (3, Value.ref qo)] := hl
        refine lv_goto (tgt := 23) hx hb dL_law_686 (by decide) ?_
        refine W.widen (k := 67 + (t + 1)) (n := 3176 + 6 * (t + 1)) (by omega) (by omega) ?_
        exact ih ln tf lnm X_s_thrown_540 f_tape fk fp tx rl nx tk sa vl fv dsc dto ef1 ef2 ef3 ef4 sc to cf1 cf2 cf3 cf4 sn s_readStairs s_fault s_faultPlace s_end s_next s_kind s_which s_place s_read f_stair f_rules f_told f_rule P bc ho fe w h f1 f2 f3 f4 f5 wm hm bcm s_hours s_fees f_low f_high f_crack B1 B2 B3 B4 B5 B6 B7 f_weight f_fire f_crowd f_state wt f_where wh f6 f_breaks lk wn on ab l1 l2 l3 l4 l5 s_looks f_row f_tried qd cr s1 s2 s3 s4 f_steps f_paths X_fo_539 (t + 1) (by omega) (by omega) (by omega) (by omega) (by omega) h_546 (by omega) (by omega) (by omega) (by omega) h_551 h_552 h_553 h_554 h_555 h_556 h_557 h_558 h_559 h_560 h_561 h_562 h_563 h_564 h_565 h_566 h_567 h_568 h_569 h_570 h_571 (by omega) (by omega) (by omega) H locs (hP.sub [0, 1, 2, 3, 4, 5, 6, 7, 8, 9, 10, 11, 12, 13, 14, 15, 16, 17, 18, 19, 20, 21, 22, 23, 24, 25, 26, 27, 28, 29, 30, 31, 32, 33, 34, 35, 36, 37, 38, 39, 40, 41, 42, 43, 44, 45, 46, 47, 48, 49, 50, 51, 52, 53, 54, 55, 56, 57, 58, 59, 60, 61, 62, 63, 64, 65] rfl) (hD.sub [0, 1, 2, 3, 4, 5, 6, 7, 8, 9, 10, 11, 12, 13, 14, 15, 16, 17, 18, 19, 20, 21, 22, 23, 24, 25, 26, 27, 28, 29, 30, 31, 32, 33, 34, 35, 36, 37, 38, 39, 40, 41, 42, 43, 44, 45, 46, 47, 48, 49, 50, 51, 52, 53, 54, 55, 56, 57, 58, 59, 60, 61, 62, 63, 64, 65] (by decide) rfl) hS ls (lv_sub hl [1, 2, 3, 4, 0] rfl)
      by_cases w_6_13 : z_5 = 13
      · skip
        subst w_6_13
        refine lv_tableIn (tgt := 618) hx hb dL_law_40 (by decide) (by decide) rfl (by decide) ?_
        have hl : lv_has ls 7 [(0, Value.ref b), (1, Value.ref h0), (2, Value.ref mo), (3, Value.ref qo), (4, Value.int (nI (7 * t)))] := hl
        refine lw_case_618 F hA bo B1 B2 B3 B4 B5 B6 B7 h0 tp rd dr fa ly wy tp1 ln tc tf fk fp va tx rl nx tk sa vl vc fv dr1 dr2 dr3 dr4 dsc dto ec1 ef1 ec2 ef2 ec3 ef3 ec4 ef4 cu rv bt bc ho fe cu1 cu2 cu3 cu4 sc to cc1 cf1 cc2 cf2 cc3 cf3 cc4 cf4 w h q1 q2 q3 q4 q5 q6 cy1 f1 cy2 f2 cy3 f3 cy4 f4 cy5 f5 cy6 f6 bc9 lk ly1 wn ly2 ly3 ly4 on ly5 ab lc1 l1 lc2 l2 lc3 l3 lc4 l4 lc5 l5 wy1 wy2 qd wy3 wy4 cr wc1 s1 wc2 s2 wc3 s3 wc4 s4 mo m_tape lnm s_thrown m_rule m_rules sn m_stair s_readStairs s_fault s_faultPlace wm hm m_low m_high m_crack bcm m_weight m_fire m_crowd m_state m_where s_hours s_fees s_looks m_words s_end s_next s_kind s_which s_place s_read m_told m_breaks m_row m_tried m_steps m_paths y_tape f_tape y_rule f_rule y_rules f_rules y_stair f_stair y_low f_low y_high f_high y_crack f_crack y_weight f_weight y_fire f_fire y_crowd f_crowd y_state f_state y_where f_where y_words y_told f_told y_breaks f_breaks y_row f_row y_tried f_tried y_steps f_steps y_paths f_paths qo yo fo (7 * t) (67 + t) (3176 + 6 * t) us e1 e2 e3 e4 en kk b L xs wt wh P (hK.sub [0, 1, 2, 3, 4, 5, 6, 7, 8, 9, 10, 11, 12, 13, 14, 15, 16, 17, 18, 19, 20, 21, 22, 23, 24, 25, 26, 27, 28, 29, 30, 31, 32, 33, 34, 35, 36, 37, 38, 39, 40, 41, 42, 43, 44, 45] rfl) hXC hXE hXs hbl hbA hlt (fun X_qd_572 X_cr_573 X_s1_574 X_s2_575 X_s3_576 X_s4_577 X_fo_578 X_s_thrown_579 X_f_steps_580 X_f_paths_581 h_582 h_583 h_584 h_585 h_586 h_587 h_588 h_589 h_590 h_591 h_592 h_593 h_594 h_595 h_596 h_597 h_598 h_599 h_600 h_601 h_602 h_603 h_604 h_605 h_606 h_607 h_608 h_609 h_610 h_611 h_612 H locs hP hD hS ls hl => ?_) _  (by omega) (by omega) (by omega) (by omega) (by omega) hst (by omega) (by omega) (by omega) (by omega) i_tf i_fk i_fp i_lo i_hi i_ck i_we i_fi i_cr i_st i_ho i_fe i_CI i_wr i_Kc i_Km i_PB i_lb i_ou i_SB i_cb (by omega) (by omega) (by omega) (by omega) (Nat.lt_succ_self _) _ _ (hP.sub [0, 1, 2, 3, 4, 5, 6, 7, 8, 9, 10, 11, 12, 13, 14, 15, 16, 17, 18, 19, 20, 21, 22, 23, 24, 25, 26, 27, 28, 29, 30, 31, 32, 33, 34, 35, 36, 37, 38, 39, 40, 41, 42, 43, 44, 45, 46, 47, 48, 49, 50, 51, 52, 53, 54, 55, 56, 57, 58, 59, 60, 61, 62, 63, 64, 65] rfl) (hD.sub [0, 1, 2, 3, 4, 5, 6, 7, 8, 9, 10, 11, 12, 13, 14, 15, 16, 17, 18, 19, 20, 21, 22, 23, 24, 25, 26, 27, 28, 29, 30, 31, 32, 33, 34, 35, 36, 37, 38, 39, 40, 41, 42, 43, 44, 45, 46, 47, 48, 49, 50, 51, 52, 53, 54, 55, 56, 57, 58, 59, 60, 61, 62, 63, 64, 65] (by decide) rfl) hS ls (lv_sub hl [0, 1, 2, 3, 4] rfl)
        have h_582 : ln ≤ 400 := h_582
        have h_583 : bc ≤ 10 := h_583
        have h_584 : w ≤ 10 := h_584
        have h_585 : h ≤ 10 := h_585
        have h_586 : sn ≤ 4 := h_586
        have h_587 : rOK 100 f_stair 24 := h_587
        have h_588 : lnm = ln := h_588
        have h_589 : bcm = bc := h_589
        have h_590 : wm = w := h_590
        have h_591 : hm = h := h_591
        have h_592 : f_tape = tf := h_592
        have h_593 : s_fault = fk := h_593
        have h_594 : s_faultPlace = fp := h_594
        have h_595 : f_low = f1 := h_595
        have h_596 : f_high = f2 := h_596
        have h_597 : f_crack = f5 := h_597
        have h_598 : f_weight = B2 := h_598
        have h_599 : f_fire = B3 := h_599
        have h_600 : f_crowd = B4 := h_600
        have h_601 : f_state = B5 := h_601
        have h_602 : s_hours = ho := h_602
        have h_603 : s_fees = fe := h_603
        have h_604 : CI bc w h B1 B2 B5 B6 B7 f3 f4 wt wh := h_604
        have h_605 : ∀ b, b < bc → B5 b = 1 → f_where b = nI (wh b) := h_605
        have h_606 : Kc P cf1 cf2 cf3 cf4 sc := h_606
        have h_607 : Km P sn f_rule f_stair := h_607
        have h_608 : PB P := h_608
        have h_609 : ∀ c, c < 100 → 0 ≤ (f1 c).toInt ∧ (f1 c).toInt ≤ 99 := h_609
        have h_610 : ∀ c, ¬ (c % 10 < w ∧ c / 10 < h) → f5 c = 0 := h_610
        have h_611 : SB P := h_611
        have h_612 : ∀ b, b < bc → B4 b = nI (cwU B4 b) ∧ cwU B4 b ≤ 99 := h_612
        refine lv_iinc (v := nI (7 * t + 7)) (lv' := [(4, Value.int (nI (7 * t + 7))), (0, Value.ref b), (1, Value.ref h0), (2, Value.ref mo), (3, Value.ref qo)]) hx hb dL_law_683 hl (k := 4) rfl (nI_add (7 * t) 7) (by decide) rfl (fun ls hl => ?_)
        rw [show 7 * t + 7 = 7 * (t + 1) from rfl] at hl
        have hl : lv_has ls 7 [(4, Value.int (nI (7 * (t + 1)))), (0, Value.ref b), (1, Value.ref h0), (2, Value.ref mo), (3, Value.ref qo)] := hl
        refine lv_goto (tgt := 23) hx hb dL_law_686 (by decide) ?_
        refine W.widen (k := 67 + (t + 1)) (n := 3176 + 6 * (t + 1)) (by omega) (by omega) ?_
        exact ih ln tf lnm X_s_thrown_579 f_tape fk fp tx rl nx tk sa vl fv dsc dto ef1 ef2 ef3 ef4 sc to cf1 cf2 cf3 cf4 sn s_readStairs s_fault s_faultPlace s_end s_next s_kind s_which s_place s_read f_stair f_rules f_told f_rule P bc ho fe w h f1 f2 f3 f4 f5 wm hm bcm s_hours s_fees f_low f_high f_crack B1 B2 B3 B4 B5 B6 B7 f_weight f_fire f_crowd f_state wt f_where wh f6 f_breaks lk wn on ab l1 l2 l3 l4 l5 s_looks f_row f_tried X_qd_572 X_cr_573 X_s1_574 X_s2_575 X_s3_576 X_s4_577 X_f_steps_580 X_f_paths_581 X_fo_578 (t + 1) (by omega) (by omega) (by omega) (by omega) (by omega) h_587 (by omega) (by omega) (by omega) (by omega) h_592 h_593 h_594 h_595 h_596 h_597 h_598 h_599 h_600 h_601 h_602 h_603 h_604 h_605 h_606 h_607 h_608 h_609 h_610 h_611 h_612 (by omega) (by omega) (by omega) H locs (hP.sub [0, 1, 2, 3, 4, 5, 6, 7, 8, 9, 10, 11, 12, 13, 14, 15, 16, 17, 18, 19, 20, 21, 22, 23, 24, 25, 26, 27, 28, 29, 30, 31, 32, 33, 34, 35, 36, 37, 38, 39, 40, 41, 42, 43, 44, 45, 46, 47, 48, 49, 50, 51, 52, 53, 54, 55, 56, 57, 58, 59, 60, 61, 62, 63, 64, 65] rfl) (hD.sub [0, 1, 2, 3, 4, 5, 6, 7, 8, 9, 10, 11, 12, 13, 14, 15, 16, 17, 18, 19, 20, 21, 22, 23, 24, 25, 26, 27, 28, 29, 30, 31, 32, 33, 34, 35, 36, 37, 38, 39, 40, 41, 42, 43, 44, 45, 46, 47, 48, 49, 50, 51, 52, 53, 54, 55, 56, 57, 58, 59, 60, 61, 62, 63, 64, 65] (by decide) rfl) hS ls (lv_sub hl [1, 2, 3, 4, 0] rfl)
      by_cases w_6_14 : z_5 = 14
      · skip
        subst w_6_14
        refine lv_tableIn (tgt := 658) hx hb dL_law_40 (by decide) (by decide) rfl (by decide) ?_
        have hl : lv_has ls 7 [(0, Value.ref b), (1, Value.ref h0), (2, Value.ref mo), (3, Value.ref qo), (4, Value.int (nI (7 * t)))] := hl
        refine lw_case_658 F hA bo B1 B2 B3 B4 B5 B6 B7 h0 tp rd dr fa ly wy tp1 ln tc tf fk fp va tx rl nx tk sa vl vc fv dr1 dr2 dr3 dr4 dsc dto ec1 ef1 ec2 ef2 ec3 ef3 ec4 ef4 cu rv bt bc ho fe cu1 cu2 cu3 cu4 sc to cc1 cf1 cc2 cf2 cc3 cf3 cc4 cf4 w h q1 q2 q3 q4 q5 q6 cy1 f1 cy2 f2 cy3 f3 cy4 f4 cy5 f5 cy6 f6 bc9 lk ly1 wn ly2 ly3 ly4 on ly5 ab lc1 l1 lc2 l2 lc3 l3 lc4 l4 lc5 l5 wy1 wy2 qd wy3 wy4 cr wc1 s1 wc2 s2 wc3 s3 wc4 s4 mo m_tape lnm s_thrown m_rule m_rules sn m_stair s_readStairs s_fault s_faultPlace wm hm m_low m_high m_crack bcm m_weight m_fire m_crowd m_state m_where s_hours s_fees s_looks m_words s_end s_next s_kind s_which s_place s_read m_told m_breaks m_row m_tried m_steps m_paths y_tape f_tape y_rule f_rule y_rules f_rules y_stair f_stair y_low f_low y_high f_high y_crack f_crack y_weight f_weight y_fire f_fire y_crowd f_crowd y_state f_state y_where f_where y_words y_told f_told y_breaks f_breaks y_row f_row y_tried f_tried y_steps f_steps y_paths f_paths qo yo fo (7 * t) (67 + t) (3176 + 6 * t) us e1 e2 e3 e4 en kk b L xs wt wh P (hK.sub [0, 1, 2, 3, 4, 5, 6, 7, 8, 9, 10, 11, 12, 13, 14, 15, 16, 17, 18, 19, 20, 21, 22, 23, 24, 25, 26, 27, 28, 29, 30, 31, 32, 33, 34, 35, 36, 37, 38, 39, 40, 41, 42, 43, 44, 45] rfl) hXC hXE hXs hbl hbA hlt (fun X_s_thrown_613 h_614 h_615 h_616 h_617 h_618 h_619 h_620 h_621 h_622 h_623 h_624 h_625 h_626 h_627 h_628 h_629 h_630 h_631 h_632 h_633 h_634 h_635 h_636 h_637 h_638 h_639 h_640 h_641 h_642 h_643 h_644 H locs hP hD hS ls hl => ?_) _  (by omega) (by omega) (by omega) (by omega) (by omega) hst (by omega) (by omega) (by omega) (by omega) i_tf i_fk i_fp i_lo i_hi i_ck i_we i_fi i_cr i_st i_ho i_fe i_CI i_wr i_Kc i_Km i_PB i_lb i_ou i_SB i_cb (by omega) (by omega) (by omega) (by omega) (Nat.lt_succ_self _) _ _ (hP.sub [0, 1, 2, 3, 4, 5, 6, 7, 8, 9, 10, 11, 12, 13, 14, 15, 16, 17, 18, 19, 20, 21, 22, 23, 24, 25, 26, 27, 28, 29, 30, 31, 32, 33, 34, 35, 36, 37, 38, 39, 40, 41, 42, 43, 44, 45, 46, 47, 48, 49, 50, 51, 52, 53, 54, 55, 56, 57, 58, 59, 60, 61, 62, 63, 64, 65] rfl) (hD.sub [0, 1, 2, 3, 4, 5, 6, 7, 8, 9, 10, 11, 12, 13, 14, 15, 16, 17, 18, 19, 20, 21, 22, 23, 24, 25, 26, 27, 28, 29, 30, 31, 32, 33, 34, 35, 36, 37, 38, 39, 40, 41, 42, 43, 44, 45, 46, 47, 48, 49, 50, 51, 52, 53, 54, 55, 56, 57, 58, 59, 60, 61, 62, 63, 64, 65] (by decide) rfl) hS ls (lv_sub hl [0, 1, 2, 3, 4] rfl)
        have h_614 : ln ≤ 400 := h_614
        have h_615 : bc ≤ 10 := h_615
        have h_616 : w ≤ 10 := h_616
        have h_617 : h ≤ 10 := h_617
        have h_618 : sn ≤ 4 := h_618
        have h_619 : rOK 100 f_stair 24 := h_619
        have h_620 : lnm = ln := h_620
        have h_621 : bcm = bc := h_621
        have h_622 : wm = w := h_622
        have h_623 : hm = h := h_623
        have h_624 : f_tape = tf := h_624
        have h_625 : s_fault = fk := h_625
        have h_626 : s_faultPlace = fp := h_626
        have h_627 : f_low = f1 := h_627
        have h_628 : f_high = f2 := h_628
        have h_629 : f_crack = f5 := h_629
        have h_630 : f_weight = B2 := h_630
        have h_631 : f_fire = B3 := h_631
        have h_632 : f_crowd = B4 := h_632
        have h_633 : f_state = B5 := h_633
        have h_634 : s_hours = ho := h_634
        have h_635 : s_fees = fe := h_635
        have h_636 : CI bc w h B1 B2 B5 B6 B7 f3 f4 wt wh := h_636
        have h_637 : ∀ b, b < bc → B5 b = 1 → f_where b = nI (wh b) := h_637
        have h_638 : Kc P cf1 cf2 cf3 cf4 sc := h_638
        have h_639 : Km P sn f_rule f_stair := h_639
        have h_640 : PB P := h_640
        have h_641 : ∀ c, c < 100 → 0 ≤ (f1 c).toInt ∧ (f1 c).toInt ≤ 99 := h_641
        have h_642 : ∀ c, ¬ (c % 10 < w ∧ c / 10 < h) → f5 c = 0 := h_642
        have h_643 : SB P := h_643
        have h_644 : ∀ b, b < bc → B4 b = nI (cwU B4 b) ∧ cwU B4 b ≤ 99 := h_644
        refine lv_iinc (v := nI (7 * t + 7)) (lv' := [(4, Value.int (nI (7 * t + 7))), (0, Value.ref b), (1, Value.ref h0), (2, Value.ref mo), (3, Value.ref qo)]) hx hb dL_law_683 hl (k := 4) rfl (nI_add (7 * t) 7) (by decide) rfl (fun ls hl => ?_)
        rw [show 7 * t + 7 = 7 * (t + 1) from rfl] at hl
        have hl : lv_has ls 7 [(4, Value.int (nI (7 * (t + 1)))), (0, Value.ref b), (1, Value.ref h0), (2, Value.ref mo), (3, Value.ref qo)] := hl
        refine lv_goto (tgt := 23) hx hb dL_law_686 (by decide) ?_
        refine W.widen (k := 67 + (t + 1)) (n := 3176 + 6 * (t + 1)) (by omega) (by omega) ?_
        exact ih ln tf lnm X_s_thrown_613 f_tape fk fp tx rl nx tk sa vl fv dsc dto ef1 ef2 ef3 ef4 sc to cf1 cf2 cf3 cf4 sn s_readStairs s_fault s_faultPlace s_end s_next s_kind s_which s_place s_read f_stair f_rules f_told f_rule P bc ho fe w h f1 f2 f3 f4 f5 wm hm bcm s_hours s_fees f_low f_high f_crack B1 B2 B3 B4 B5 B6 B7 f_weight f_fire f_crowd f_state wt f_where wh f6 f_breaks lk wn on ab l1 l2 l3 l4 l5 s_looks f_row f_tried qd cr s1 s2 s3 s4 f_steps f_paths fo (t + 1) (by omega) (by omega) (by omega) (by omega) (by omega) h_619 (by omega) (by omega) (by omega) (by omega) h_624 h_625 h_626 h_627 h_628 h_629 h_630 h_631 h_632 h_633 h_634 h_635 h_636 h_637 h_638 h_639 h_640 h_641 h_642 h_643 h_644 (by omega) (by omega) (by omega) H locs (hP.sub [0, 1, 2, 3, 4, 5, 6, 7, 8, 9, 10, 11, 12, 13, 14, 15, 16, 17, 18, 19, 20, 21, 22, 23, 24, 25, 26, 27, 28, 29, 30, 31, 32, 33, 34, 35, 36, 37, 38, 39, 40, 41, 42, 43, 44, 45, 46, 47, 48, 49, 50, 51, 52, 53, 54, 55, 56, 57, 58, 59, 60, 61, 62, 63, 64, 65] rfl) (hD.sub [0, 1, 2, 3, 4, 5, 6, 7, 8, 9, 10, 11, 12, 13, 14, 15, 16, 17, 18, 19, 20, 21, 22, 23, 24, 25, 26, 27, 28, 29, 30, 31, 32, 33, 34, 35, 36, 37, 38, 39, 40, 41, 42, 43, 44, 45, 46, 47, 48, 49, 50, 51, 52, 53, 54, 55, 56, 57, 58, 59, 60, 61, 62, 63, 64, 65] (by decide) rfl) hS ls (lv_sub hl [1, 2, 3, 4, 0] rfl)
      refine lv_tableOut (tgt := 683) hx hb dL_law_40 (m_out z_5 (by decide) (by decide) (fun j h1 h2 => ?_)) (by decide) ?_
      · skip
        rcases (show j = 0 ∨ j = 1 ∨ j = 2 ∨ j = 3 ∨ j = 4 ∨ j = 5 ∨ j = 6 ∨ j = 7 ∨ j = 8 ∨ j = 9 ∨ j = 10 ∨ j = 11 ∨ j = 12 ∨ j = 13 ∨ j = 14 by omega) with rfl | rfl | rfl | rfl | rfl | rfl | rfl | rfl | rfl | rfl | rfl | rfl | rfl | rfl | rfl
        · exact w_6_0
        · exact w_6_1
        · exact w_6_2
        · exact w_6_3
        · exact w_6_4
        · exact w_6_5
        · exact w_6_6
        · exact w_6_7
        · exact w_6_8
        · exact w_6_9
        · exact w_6_10
        · exact w_6_11
        · exact w_6_12
        · exact w_6_13
        · exact w_6_14
      refine lv_iinc (v := nI (7 * t + 7)) (lv' := [(4, Value.int (nI (7 * t + 7))), (0, Value.ref b), (1, Value.ref h0), (2, Value.ref mo), (3, Value.ref qo)]) hx hb dL_law_683 hl (k := 4) rfl (nI_add (7 * t) 7) (by decide) rfl (fun ls hl => ?_)
      rw [show 7 * t + 7 = 7 * (t + 1) from rfl] at hl
      have hl : lv_has ls 7 [(4, Value.int (nI (7 * (t + 1)))), (0, Value.ref b), (1, Value.ref h0), (2, Value.ref mo), (3, Value.ref qo)] := hl
      refine lv_goto (tgt := 23) hx hb dL_law_686 (by decide) ?_
      refine W.widen (k := 67 + (t + 1)) (n := 3176 + 6 * (t + 1)) (by omega) (by omega) ?_
      exact ih ln tf lnm s_thrown f_tape fk fp tx rl nx tk sa vl fv dsc dto ef1 ef2 ef3 ef4 sc to cf1 cf2 cf3 cf4 sn s_readStairs s_fault s_faultPlace s_end s_next s_kind s_which s_place s_read f_stair f_rules f_told f_rule P bc ho fe w h f1 f2 f3 f4 f5 wm hm bcm s_hours s_fees f_low f_high f_crack B1 B2 B3 B4 B5 B6 B7 f_weight f_fire f_crowd f_state wt f_where wh f6 f_breaks lk wn on ab l1 l2 l3 l4 l5 s_looks f_row f_tried qd cr s1 s2 s3 s4 f_steps f_paths fo (t + 1) (by omega) (by omega) (by omega) (by omega) (by omega) hst (by omega) (by omega) (by omega) (by omega) i_tf i_fk i_fp i_lo i_hi i_ck i_we i_fi i_cr i_st i_ho i_fe i_CI i_wr i_Kc i_Km i_PB i_lb i_ou i_SB i_cb (by omega) (by omega) (by omega) H locs (hP.sub [0, 1, 2, 3, 4, 5, 6, 7, 8, 9, 10, 11, 12, 13, 14, 15, 16, 17, 18, 19, 20, 21, 22, 23, 24, 25, 26, 27, 28, 29, 30, 31, 32, 33, 34, 35, 36, 37, 38, 39, 40, 41, 42, 43, 44, 45, 46, 47, 48, 49, 50, 51, 52, 53, 54, 55, 56, 57, 58, 59, 60, 61, 62, 63, 64, 65] rfl) (hD.sub [0, 1, 2, 3, 4, 5, 6, 7, 8, 9, 10, 11, 12, 13, 14, 15, 16, 17, 18, 19, 20, 21, 22, 23, 24, 25, 26, 27, 28, 29, 30, 31, 32, 33, 34, 35, 36, 37, 38, 39, 40, 41, 42, 43, 44, 45, 46, 47, 48, 49, 50, 51, 52, 53, 54, 55, 56, 57, 58, 59, 60, 61, 62, 63, 64, 65] (by decide) rfl) hS ls (lv_sub hl [1, 2, 3, 4, 0] rfl)
