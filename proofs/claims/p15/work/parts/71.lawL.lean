set_option maxHeartbeats 4000000 in
set_option maxRecDepth 100000 in
theorem lw_loop {p : Program} {l : Launch} {e : Env} {s : State} {m : MethodId} {args : Array Value} {below : List Frame} {meth : Method} {c : Code} {Q : State → Prop} {A : Nat → Prop} {D : va_G} (F : mFix p s m args c cL_law 7 RL) (hA : ∀ q, s.heap.size ≤ q → A q) (bo : Nat → Nat) (h0 : Nat) (tp : Nat) (rd : Nat) (dr : Nat) (fa : Nat) (ly : Nat) (wy : Nat) (tp1 : Nat) (tc : ClassId) (va : Nat) (vc : ClassId) (dr1 : Nat) (dr2 : Nat) (dr3 : Nat) (dr4 : Nat) (ec1 : ClassId) (ec2 : ClassId) (ec3 : ClassId) (ec4 : ClassId) (cu : Nat) (rv : Nat) (bt : Nat) (cu1 : Nat) (cu2 : Nat) (cu3 : Nat) (cu4 : Nat) (cc1 : ClassId) (cc2 : ClassId) (cc3 : ClassId) (cc4 : ClassId) (q1 : Nat) (q2 : Nat) (q3 : Nat) (q4 : Nat) (q5 : Nat) (q6 : Nat) (cy1 : ClassId) (cy2 : ClassId) (cy3 : ClassId) (cy4 : ClassId) (cy5 : ClassId) (cy6 : ClassId) (bc9 : ClassId) (ly1 : Nat) (ly2 : Nat) (ly3 : Nat) (ly4 : Nat) (ly5 : Nat) (lc1 : ClassId) (lc2 : ClassId) (lc3 : ClassId) (lc4 : ClassId) (lc5 : ClassId) (wy1 : Nat) (wy2 : Nat) (wy3 : Nat) (wy4 : Nat) (wc1 : ClassId) (wc2 : ClassId) (wc3 : ClassId) (wc4 : ClassId) (mo : Nat) (m_tape : Nat) (m_rule : Nat) (m_rules : Nat) (m_stair : Nat) (m_low : Nat) (m_high : Nat) (m_crack : Nat) (m_weight : Nat) (m_fire : Nat) (m_crowd : Nat) (m_state : Nat) (m_where : Nat) (m_words : Nat) (m_told : Nat) (m_breaks : Nat) (m_row : Nat) (m_tried : Nat) (m_steps : Nat) (m_paths : Nat) (y_tape : ClassId) (y_rule : ClassId) (y_rules : ClassId) (y_stair : ClassId) (y_low : ClassId) (y_high : ClassId) (y_crack : ClassId) (y_weight : ClassId) (y_fire : ClassId) (y_crowd : ClassId) (y_state : ClassId) (y_where : ClassId) (y_words : ClassId) (y_told : ClassId) (y_breaks : ClassId) (y_row : ClassId) (y_tried : ClassId) (y_steps : ClassId) (y_paths : ClassId) (qo : Nat) (yo : ClassId) (us : Nat) (e1 : Nat) (e2 : Nat) (e3 : Nat) (e4 : Nat) (en : Nat → Nat) (kk : Nat → Nat) (b : Nat) (L : Nat) (xs : Nat → Int32) (hK : va_K D vwCl [(tc, .int), (vc, .int), (ec1, .int), (ec2, .int), (ec3, .int), (ec4, .int), (cc1, .int), (cc2, .int), (cc3, .int), (cc4, .int), (cy1, .int), (cy2, .int), (cy3, .int), (cy4, .int), (cy5, .boolean), (cy6, .boolean), (bc9, .object RX0), (lc1, .int), (lc2, .int), (lc3, .int), (lc4, .boolean), (lc5, .int), (wc1, .int), (wc2, .int), (wc3, .int), (wc4, .int), (y_tape, .int), (y_rule, .int), (y_rules, .int), (y_stair, .int), (y_low, .int), (y_high, .int), (y_crack, .boolean), (y_weight, .int), (y_fire, .boolean), (y_crowd, .int), (y_state, .int), (y_where, .int), (y_words, .int), (y_told, .boolean), (y_breaks, .boolean), (y_row, .int), (y_tried, .int), (y_steps, .int), (y_paths, .int), (yo, .long)] s) (hXC : xC us en kk A s) (hXE : xE e1 e2 e3 e4 A s) (hXs : va_X b L xs s s.heap) (hbl : b < s.heap.size) (hbA : ¬ A b) (hlt : l.stackTraces = false)
    (kx_717 : ∀ (t : Nat), (7 * t ≤ 3584) → ∀ (H : Heap) (locs : List Loc), va_P D vwCl [] H → va_D A [] → va_S A s.heap H locs → ∀ ls : Array Slot, lv_has ls 7 [] → W p l e (room_1) s m args below meth c H locs (67 + t) (3176 + 6 * t) Q (F0 m 717 ls [])) :
    ∀ n : Nat, ∀ (ln : Nat) (tf : Nat → Int32) (lnm : Nat) (s_thrown : Int32) (f_tape : Nat → Int32) (fk : Int32) (fp : Int32) (tx : Nat) (rl : Int32) (nx : Int32) (tk : Int32) (sa : Int32) (vl : Int32) (fv : Nat → Int32) (dsc : Int32) (dto : Int32) (ef1 : Nat → Int32) (ef2 : Nat → Int32) (ef3 : Nat → Int32) (ef4 : Nat → Int32) (sc : Int32) (to : Int32) (cf1 : Nat → Int32) (cf2 : Nat → Int32) (cf3 : Nat → Int32) (cf4 : Nat → Int32) (sn : Nat) (s_readStairs : Int32) (s_fault : Int32) (s_faultPlace : Int32) (s_end : Int32) (s_next : Int32) (s_kind : Int32) (s_which : Int32) (s_place : Int32) (s_read : Int32) (f_stair : Nat → Int32) (f_rules : Nat → Int32) (f_told : Nat → Int32) (f_rule : Nat → Int32) (P : PSt) (bc : Nat) (ho : Int32) (fe : Int32) (w : Nat) (h : Nat) (f1 : Nat → Int32) (f2 : Nat → Int32) (f3 : Nat → Int32) (f4 : Nat → Int32) (f5 : Nat → Int32) (wm : Nat) (hm : Nat) (bcm : Nat) (s_hours : Int32) (s_fees : Int32) (f_low : Nat → Int32) (f_high : Nat → Int32) (f_crack : Nat → Int32) (B1 : Nat → Int32) (B2 : Nat → Int32) (B3 : Nat → Int32) (B4 : Nat → Int32) (B5 : Nat → Int32) (B6 : Nat → Int32) (B7 : Nat → Int32) (f_weight : Nat → Int32) (f_fire : Nat → Int32) (f_crowd : Nat → Int32) (f_state : Nat → Int32) (wt : Nat → Nat) (f_where : Nat → Int32) (wh : Nat → Nat) (f6 : Nat → Int32) (f_breaks : Nat → Int32) (lk : Int32) (wn : Int32) (on : Int32) (ab : Int32) (l1 : Nat → Int32) (l2 : Nat → Int32) (l3 : Nat → Int32) (l4 : Nat → Int32) (l5 : Nat → Int32) (s_looks : Int32) (f_row : Nat → Int32) (f_tried : Nat → Int32) (qd : Int32) (cr : Int32) (s1 : Nat → Int32) (s2 : Nat → Int32) (s3 : Nat → Int32) (s4 : Nat → Int32) (f_steps : Nat → Int32) (f_paths : Nat → Int32) (fo : Nat → Int64) (t : Nat), (ln ≤ 400) → (bc ≤ 10) → (w ≤ 10) → (h ≤ 10) → (sn ≤ 4) → (rOK 100 f_stair 24) → (lnm = ln) → (bcm = bc) → (wm = w) → (hm = h) → (f_tape = tf) → (s_fault = fk) → (s_faultPlace = fp) → (f_low = f1) → (f_high = f2) → (f_crack = f5) → (f_weight = B2) → (f_fire = B3) → (f_crowd = B4) → (f_state = B5) → (s_hours = ho) → (s_fees = fe) → (CI bc w h B1 B2 B5 B6 B7 f3 f4 wt wh) → (∀ b, b < bc → B5 b = 1 → f_where b = nI (wh b)) → (Kc P cf1 cf2 cf3 cf4 sc) → (Km P sn f_rule f_stair) → (PB P) → (∀ c, c < 100 → 0 ≤ (f1 c).toInt ∧ (f1 c).toInt ≤ 99) → (∀ c, ¬ (c % 10 < w ∧ c / 10 < h) → f5 c = 0) → (SB P) → (L ≤ 3584) → (7 * t ≤ 3584) → (L - 7 * t) < n → ∀ (H : Heap) (locs : List Loc), va_P D vwCl (bL bo B1 B2 B3 B4 B5 B6 B7 ++ ([(h0, Sum.inr (8, [Value.ref tp, Value.ref rd, Value.ref dr, Value.ref fa, Value.ref ly, Value.ref wy])), (tp, Sum.inr (6, [Value.ref tp1, Value.int (nI ln)])), (tp1, Sum.inl (tc, 400, Sum.inl tf)), (rd, Sum.inr (2, [Value.int fk, Value.int fp, Value.ref va, Value.ref tx, Value.int rl, Value.int nx, Value.int tk, Value.int sa, Value.int vl])), (va, Sum.inl (vc, 3, Sum.inl fv)), (dr, Sum.inr (1, [Value.ref dr1, Value.ref dr2, Value.ref dr3, Value.ref dr4, Value.int dsc, Value.int dto])), (dr1, Sum.inl (ec1, 8, Sum.inl ef1)), (dr2, Sum.inl (ec2, 4, Sum.inl ef2)), (dr3, Sum.inl (ec3, 4, Sum.inl ef3)), (dr4, Sum.inl (ec4, 4, Sum.inl ef4)), (fa, Sum.inr (3, [Value.ref cu, Value.ref rv, Value.ref bt, Value.int (nI bc), Value.int ho, Value.int fe])), (cu, Sum.inr (1, [Value.ref cu1, Value.ref cu2, Value.ref cu3, Value.ref cu4, Value.int sc, Value.int to])), (cu1, Sum.inl (cc1, 8, Sum.inl cf1)), (cu2, Sum.inl (cc2, 4, Sum.inl cf2)), (cu3, Sum.inl (cc3, 4, Sum.inl cf3)), (cu4, Sum.inl (cc4, 4, Sum.inl cf4)), (rv, Sum.inr (5, [Value.int (nI w), Value.int (nI h), Value.ref q1, Value.ref q2, Value.ref q3, Value.ref q4, Value.ref q5, Value.ref q6])), (q1, Sum.inl (cy1, 100, Sum.inl f1)), (q2, Sum.inl (cy2, 100, Sum.inl f2)), (q3, Sum.inl (cy3, 100, Sum.inl f3)), (q4, Sum.inl (cy4, 100, Sum.inl f4)), (q5, Sum.inl (cy5, 100, Sum.inl f5)), (q6, Sum.inl (cy6, 100, Sum.inl f6)), (bt, Sum.inl (bc9, 10, Sum.inr (Sum.inr (Sum.inr (Sum.inr (fun j => some (bo j))))))), (ly, Sum.inr (4, [Value.int lk, Value.ref ly1, Value.int wn, Value.ref ly2, Value.ref ly3, Value.ref ly4, Value.int on, Value.ref ly5, Value.int ab])), (ly1, Sum.inl (lc1, 10, Sum.inl l1)), (ly2, Sum.inl (lc2, 100, Sum.inl l2)), (ly3, Sum.inl (lc3, 100, Sum.inl l3)), (ly4, Sum.inl (lc4, 100, Sum.inl l4)), (ly5, Sum.inl (lc5, 10, Sum.inl l5)), (wy, Sum.inr (7, [Value.ref wy1, Value.ref wy2, Value.int qd, Value.ref wy3, Value.ref wy4, Value.int cr])), (wy1, Sum.inl (wc1, 100, Sum.inl s1)), (wy2, Sum.inl (wc2, 100, Sum.inl s2)), (wy3, Sum.inl (wc3, 40, Sum.inl s3)), (wy4, Sum.inl (wc4, 4, Sum.inl s4)), (mo, Sum.inr (9, [Value.ref m_tape, Value.int (nI lnm), Value.int s_thrown, Value.ref m_rule, Value.ref m_rules, Value.int (nI sn), Value.ref m_stair, Value.int s_readStairs, Value.int s_fault, Value.int s_faultPlace, Value.int (nI wm), Value.int (nI hm), Value.ref m_low, Value.ref m_high, Value.ref m_crack, Value.int (nI bcm), Value.ref m_weight, Value.ref m_fire, Value.ref m_crowd, Value.ref m_state, Value.ref m_where, Value.int s_hours, Value.int s_fees, Value.int s_looks, Value.ref m_words, Value.int s_end, Value.int s_next, Value.int s_kind, Value.int s_which, Value.int s_place, Value.int s_read, Value.ref m_told, Value.ref m_breaks, Value.ref m_row, Value.ref m_tried, Value.ref m_steps, Value.ref m_paths])), (m_tape, Sum.inl (y_tape, 400, Sum.inl f_tape)), (m_rule, Sum.inl (y_rule, 8, Sum.inl f_rule)), (m_rules, Sum.inl (y_rules, 8, Sum.inl f_rules)), (m_stair, Sum.inl (y_stair, 24, Sum.inl f_stair)), (m_low, Sum.inl (y_low, 100, Sum.inl f_low)), (m_high, Sum.inl (y_high, 100, Sum.inl f_high)), (m_crack, Sum.inl (y_crack, 100, Sum.inl f_crack)), (m_weight, Sum.inl (y_weight, 10, Sum.inl f_weight)), (m_fire, Sum.inl (y_fire, 10, Sum.inl f_fire)), (m_crowd, Sum.inl (y_crowd, 10, Sum.inl f_crowd)), (m_state, Sum.inl (y_state, 10, Sum.inl f_state)), (m_where, Sum.inl (y_where, 10, Sum.inl f_where)), (m_words, Sum.inl (y_words, 36, Sum.inl wF)), (m_told, Sum.inl (y_told, 7, Sum.inl f_told)), (m_breaks, Sum.inl (y_breaks, 100, Sum.inl f_breaks)), (m_row, Sum.inl (y_row, 10, Sum.inl f_row)), (m_tried, Sum.inl (y_tried, 10, Sum.inl f_tried)), (m_steps, Sum.inl (y_steps, 400, Sum.inl f_steps)), (m_paths, Sum.inl (y_paths, 40, Sum.inl f_paths)), (qo, Sum.inl (yo, 1, Sum.inr (Sum.inl fo)))] : va_W)) H → va_D A (bL bo B1 B2 B3 B4 B5 B6 B7 ++ ([(h0, Sum.inr (8, [Value.ref tp, Value.ref rd, Value.ref dr, Value.ref fa, Value.ref ly, Value.ref wy])), (tp, Sum.inr (6, [Value.ref tp1, Value.int (nI ln)])), (tp1, Sum.inl (tc, 400, Sum.inl tf)), (rd, Sum.inr (2, [Value.int fk, Value.int fp, Value.ref va, Value.ref tx, Value.int rl, Value.int nx, Value.int tk, Value.int sa, Value.int vl])), (va, Sum.inl (vc, 3, Sum.inl fv)), (dr, Sum.inr (1, [Value.ref dr1, Value.ref dr2, Value.ref dr3, Value.ref dr4, Value.int dsc, Value.int dto])), (dr1, Sum.inl (ec1, 8, Sum.inl ef1)), (dr2, Sum.inl (ec2, 4, Sum.inl ef2)), (dr3, Sum.inl (ec3, 4, Sum.inl ef3)), (dr4, Sum.inl (ec4, 4, Sum.inl ef4)), (fa, Sum.inr (3, [Value.ref cu, Value.ref rv, Value.ref bt, Value.int (nI bc), Value.int ho, Value.int fe])), (cu, Sum.inr (1, [Value.ref cu1, Value.ref cu2, Value.ref cu3, Value.ref cu4, Value.int sc, Value.int to])), (cu1, Sum.inl (cc1, 8, Sum.inl cf1)), (cu2, Sum.inl (cc2, 4, Sum.inl cf2)), (cu3, Sum.inl (cc3, 4, Sum.inl cf3)), (cu4, Sum.inl (cc4, 4, Sum.inl cf4)), (rv, Sum.inr (5, [Value.int (nI w), Value.int (nI h), Value.ref q1, Value.ref q2, Value.ref q3, Value.ref q4, Value.ref q5, Value.ref q6])), (q1, Sum.inl (cy1, 100, Sum.inl f1)), (q2, Sum.inl (cy2, 100, Sum.inl f2)), (q3, Sum.inl (cy3, 100, Sum.inl f3)), (q4, Sum.inl (cy4, 100, Sum.inl f4)), (q5, Sum.inl (cy5, 100, Sum.inl f5)), (q6, Sum.inl (cy6, 100, Sum.inl f6)), (bt, Sum.inl (bc9, 10, Sum.inr (Sum.inr (Sum.inr (Sum.inr (fun j => some (bo j))))))), (ly, Sum.inr (4, [Value.int lk, Value.ref ly1, Value.int wn, Value.ref ly2, Value.ref ly3, Value.ref ly4, Value.int on, Value.ref ly5, Value.int ab])), (ly1, Sum.inl (lc1, 10, Sum.inl l1)), (ly2, Sum.inl (lc2, 100, Sum.inl l2)), (ly3, Sum.inl (lc3, 100, Sum.inl l3)), (ly4, Sum.inl (lc4, 100, Sum.inl l4)), (ly5, Sum.inl (lc5, 10, Sum.inl l5)), (wy, Sum.inr (7, [Value.ref wy1, Value.ref wy2, Value.int qd, Value.ref wy3, Value.ref wy4, Value.int cr])), (wy1, Sum.inl (wc1, 100, Sum.inl s1)), (wy2, Sum.inl (wc2, 100, Sum.inl s2)), (wy3, Sum.inl (wc3, 40, Sum.inl s3)), (wy4, Sum.inl (wc4, 4, Sum.inl s4)), (mo, Sum.inr (9, [Value.ref m_tape, Value.int (nI lnm), Value.int s_thrown, Value.ref m_rule, Value.ref m_rules, Value.int (nI sn), Value.ref m_stair, Value.int s_readStairs, Value.int s_fault, Value.int s_faultPlace, Value.int (nI wm), Value.int (nI hm), Value.ref m_low, Value.ref m_high, Value.ref m_crack, Value.int (nI bcm), Value.ref m_weight, Value.ref m_fire, Value.ref m_crowd, Value.ref m_state, Value.ref m_where, Value.int s_hours, Value.int s_fees, Value.int s_looks, Value.ref m_words, Value.int s_end, Value.int s_next, Value.int s_kind, Value.int s_which, Value.int s_place, Value.int s_read, Value.ref m_told, Value.ref m_breaks, Value.ref m_row, Value.ref m_tried, Value.ref m_steps, Value.ref m_paths])), (m_tape, Sum.inl (y_tape, 400, Sum.inl f_tape)), (m_rule, Sum.inl (y_rule, 8, Sum.inl f_rule)), (m_rules, Sum.inl (y_rules, 8, Sum.inl f_rules)), (m_stair, Sum.inl (y_stair, 24, Sum.inl f_stair)), (m_low, Sum.inl (y_low, 100, Sum.inl f_low)), (m_high, Sum.inl (y_high, 100, Sum.inl f_high)), (m_crack, Sum.inl (y_crack, 100, Sum.inl f_crack)), (m_weight, Sum.inl (y_weight, 10, Sum.inl f_weight)), (m_fire, Sum.inl (y_fire, 10, Sum.inl f_fire)), (m_crowd, Sum.inl (y_crowd, 10, Sum.inl f_crowd)), (m_state, Sum.inl (y_state, 10, Sum.inl f_state)), (m_where, Sum.inl (y_where, 10, Sum.inl f_where)), (m_words, Sum.inl (y_words, 36, Sum.inl wF)), (m_told, Sum.inl (y_told, 7, Sum.inl f_told)), (m_breaks, Sum.inl (y_breaks, 100, Sum.inl f_breaks)), (m_row, Sum.inl (y_row, 10, Sum.inl f_row)), (m_tried, Sum.inl (y_tried, 10, Sum.inl f_tried)), (m_steps, Sum.inl (y_steps, 400, Sum.inl f_steps)), (m_paths, Sum.inl (y_paths, 40, Sum.inl f_paths)), (qo, Sum.inl (yo, 1, Sum.inr (Sum.inl fo)))] : va_W)) → va_S A s.heap H locs → ∀ ls : Array Slot, lv_has ls 7 [(0, Value.ref b), (1, Value.ref h0), (2, Value.ref mo), (3, Value.ref qo), (4, Value.int (nI (7 * t)))] → W p l e (room_1) s m args below meth c H locs (67 + t) (3176 + 6 * t) Q (F0 m 23 ls []) := by
  intro n
  induction n with
  | zero => intro ln tf lnm s_thrown f_tape fk fp tx rl nx tk sa vl fv dsc dto ef1 ef2 ef3 ef4 sc to cf1 cf2 cf3 cf4 sn s_readStairs s_fault s_faultPlace s_end s_next s_kind s_which s_place s_read f_stair f_rules f_told f_rule P bc ho fe w h f1 f2 f3 f4 f5 wm hm bcm s_hours s_fees f_low f_high f_crack B1 B2 B3 B4 B5 B6 B7 f_weight f_fire f_crowd f_state wt f_where wh f6 f_breaks lk wn on ab l1 l2 l3 l4 l5 s_looks f_row f_tried qd cr s1 s2 s3 s4 f_steps f_paths fo t i_ln i_bc i_w i_h i_sn hst i_lnm i_bcm i_wm i_hm i_tf i_fk i_fp i_lo i_hi i_ck i_we i_fi i_cr i_st i_ho i_fe i_CI i_wr i_Kc i_Km i_PB i_lb i_ou i_SB hL ht7 hn; exact absurd hn (Nat.not_lt_zero _)
  | succ n ih =>
    intro ln tf lnm s_thrown f_tape fk fp tx rl nx tk sa vl fv dsc dto ef1 ef2 ef3 ef4 sc to cf1 cf2 cf3 cf4 sn s_readStairs s_fault s_faultPlace s_end s_next s_kind s_which s_place s_read f_stair f_rules f_told f_rule P bc ho fe w h f1 f2 f3 f4 f5 wm hm bcm s_hours s_fees f_low f_high f_crack B1 B2 B3 B4 B5 B6 B7 f_weight f_fire f_crowd f_state wt f_where wh f6 f_breaks lk wn on ab l1 l2 l3 l4 l5 s_looks f_row f_tried qd cr s1 s2 s3 s4 f_steps f_paths fo t i_ln i_bc i_w i_h i_sn hst i_lnm i_bcm i_wm i_hm i_tf i_fk i_fp i_lo i_hi i_ck i_we i_fi i_cr i_st i_ho i_fe i_CI i_wr i_Kc i_Km i_PB i_lb i_ou i_SB hL ht7 hn H locs hP hD hS ls hl
    obtain ⟨hx, hb, hml, hown, hts⟩ := id F
    refine lv_iload hx hb dL_law_23 (lv_at hl 4 rfl) ?_
    refine lv_aload_n hx hb dL_law_25 rfl (lv_at hl 0 rfl) ?_
    refine va_slen hx hb hXs hbl hbA hS dL_law_26 ?_
    refine lv_topi (fun z_1 ez_1 => ?_)
    obtain rfl : z_1 = nI L := ez_1
    refine lv_bipush (v := 7) hx hb dL_law_27 (by decide) ?_
    refine lv_isub hx hb dL_law_29 ?_
    refine lv_topi (fun z_2 ez_2 => ?_)
    refine lv_icmp_gt (tgt := 717) hx hb dL_law_30 (by decide) (fun c_3 => ?_) (fun c_3 => ?_)
    · skip
      exact kx_717 t (by omega) H locs (hP.sub [] rfl) (hD.sub [] (by decide) rfl) hS ls (lv_sub hl [] rfl)
    · skip
      have hiq : 7 * t + 7 ≤ L := lw_len hL (by omega) (by rw [← ez_2]; exact c_3)
      refine lv_aload_n hx hb dL_law_33 rfl (lv_at hl 0 rfl) ?_
      refine lv_iload hx hb dL_law_34 (lv_at hl 4 rfl) ?_
      refine va_sld hx hb hXs hbl hbA hS (vp_in_nI (by omega) (by omega)) dL_law_36 ?_
      refine lv_topi (fun v_4 ev_4 => ?_)
      refine lv_bipush (v := 15) hx hb dL_law_37 (by decide) ?_
      refine lv_iand hx hb dL_law_39 ?_
      refine lv_topi (fun z_5 ez_5 => ?_)
      by_cases w_6_0 : z_5 = 0
      · skip
        subst w_6_0
        refine lv_tableIn (tgt := 116) hx hb dL_law_40 (by decide) (by decide) rfl (by decide) ?_
        have hl : lv_has ls 7 [(0, Value.ref b), (1, Value.ref h0), (2, Value.ref mo), (3, Value.ref qo), (4, Value.int (nI (7 * t)))] := hl
        refine lw_case_116 F hA bo B1 B2 B3 B4 B5 B6 B7 h0 tp rd dr fa ly wy tp1 ln tc tf fk fp va tx rl nx tk sa vl vc fv dr1 dr2 dr3 dr4 dsc dto ec1 ef1 ec2 ef2 ec3 ef3 ec4 ef4 cu rv bt bc ho fe cu1 cu2 cu3 cu4 sc to cc1 cf1 cc2 cf2 cc3 cf3 cc4 cf4 w h q1 q2 q3 q4 q5 q6 cy1 f1 cy2 f2 cy3 f3 cy4 f4 cy5 f5 cy6 f6 bc9 lk ly1 wn ly2 ly3 ly4 on ly5 ab lc1 l1 lc2 l2 lc3 l3 lc4 l4 lc5 l5 wy1 wy2 qd wy3 wy4 cr wc1 s1 wc2 s2 wc3 s3 wc4 s4 mo m_tape lnm s_thrown m_rule m_rules sn m_stair s_readStairs s_fault s_faultPlace wm hm m_low m_high m_crack bcm m_weight m_fire m_crowd m_state m_where s_hours s_fees s_looks m_words s_end s_next s_kind s_which s_place s_read m_told m_breaks m_row m_tried m_steps m_paths y_tape f_tape y_rule f_rule y_rules f_rules y_stair f_stair y_low f_low y_high f_high y_crack f_crack y_weight f_weight y_fire f_fire y_crowd f_crowd y_state f_state y_where f_where y_words y_told f_told y_breaks f_breaks y_row f_row y_tried f_tried y_steps f_steps y_paths f_paths qo yo fo (7 * t) (67 + t) (3176 + 6 * t) us e1 e2 e3 e4 en kk b L xs wt wh P (hK.sub [0, 1, 2, 3, 4, 5, 6, 7, 8, 9, 10, 11, 12, 13, 14, 15, 16, 17, 18, 19, 20, 21, 22, 23, 24, 25, 26, 27, 28, 29, 30, 31, 32, 33, 34, 35, 36, 37, 38, 39, 40, 41, 42, 43, 44, 45] rfl) hXC hXE hXs hbl hbA hlt (fun X_ln_7 X_tf_8 X_lnm_9 X_s_thrown_10 X_f_tape_11 h_12 h_13 h_14 h_15 h_16 h_17 h_18 h_19 h_20 h_21 h_22 h_23 h_24 h_25 h_26 h_27 h_28 h_29 h_30 h_31 h_32 h_33 h_34 h_35 h_36 h_37 h_38 h_39 h_40 h_41 H locs hP hD hS ls hl => ?_) _  (by omega) (by omega) (by omega) (by omega) (by omega) hst (by omega) (by omega) (by omega) (by omega) i_tf i_fk i_fp i_lo i_hi i_ck i_we i_fi i_cr i_st i_ho i_fe i_CI i_wr i_Kc i_Km i_PB i_lb i_ou i_SB (by omega) (by omega) (by omega) (by omega) (Nat.lt_succ_self _) _ _ (hP.sub [0, 1, 2, 3, 4, 5, 6, 7, 8, 9, 10, 11, 12, 13, 14, 15, 16, 17, 18, 19, 20, 21, 22, 23, 24, 25, 26, 27, 28, 29, 30, 31, 32, 33, 34, 35, 36, 37, 38, 39, 40, 41, 42, 43, 44, 45, 46, 47, 48, 49, 50, 51, 52, 53, 54, 55, 56, 57, 58, 59, 60, 61, 62, 63, 64, 65] rfl) (hD.sub [0, 1, 2, 3, 4, 5, 6, 7, 8, 9, 10, 11, 12, 13, 14, 15, 16, 17, 18, 19, 20, 21, 22, 23, 24, 25, 26, 27, 28, 29, 30, 31, 32, 33, 34, 35, 36, 37, 38, 39, 40, 41, 42, 43, 44, 45, 46, 47, 48, 49, 50, 51, 52, 53, 54, 55, 56, 57, 58, 59, 60, 61, 62, 63, 64, 65] (by decide) rfl) hS ls (lv_sub hl [0, 1, 2, 3, 4] rfl)
        have h_12 : X_ln_7 ≤ 400 := h_12
        have h_13 : bc ≤ 10 := h_13
        have h_14 : w ≤ 10 := h_14
        have h_15 : h ≤ 10 := h_15
        have h_16 : sn ≤ 4 := h_16
        have h_17 : rOK 100 f_stair 24 := h_17
        have h_18 : X_lnm_9 = X_ln_7 := h_18
        have h_19 : bcm = bc := h_19
        have h_20 : wm = w := h_20
        have h_21 : hm = h := h_21
        have h_22 : X_f_tape_11 = X_tf_8 := h_22
        have h_23 : s_fault = fk := h_23
        have h_24 : s_faultPlace = fp := h_24
        have h_25 : f_low = f1 := h_25
        have h_26 : f_high = f2 := h_26
        have h_27 : f_crack = f5 := h_27
        have h_28 : f_weight = B2 := h_28
        have h_29 : f_fire = B3 := h_29
        have h_30 : f_crowd = B4 := h_30
        have h_31 : f_state = B5 := h_31
        have h_32 : s_hours = ho := h_32
        have h_33 : s_fees = fe := h_33
        have h_34 : CI bc w h B1 B2 B5 B6 B7 f3 f4 wt wh := h_34
        have h_35 : ∀ b, b < bc → B5 b = 1 → f_where b = nI (wh b) := h_35
        have h_36 : Kc P cf1 cf2 cf3 cf4 sc := h_36
        have h_37 : Km P sn f_rule f_stair := h_37
        have h_38 : PB P := h_38
        have h_39 : ∀ c, c < 100 → 0 ≤ (f1 c).toInt ∧ (f1 c).toInt ≤ 99 := h_39
        have h_40 : ∀ c, ¬ (c % 10 < w ∧ c / 10 < h) → f5 c = 0 := h_40
        have h_41 : SB P := h_41
        refine lv_iinc (v := nI (7 * t + 7)) (lv' := [(4, Value.int (nI (7 * t + 7))), (0, Value.ref b), (1, Value.ref h0), (2, Value.ref mo), (3, Value.ref qo)]) hx hb dL_law_711 hl (k := 4) rfl (nI_add (7 * t) 7) (by decide) rfl (fun ls hl => ?_)
        rw [show 7 * t + 7 = 7 * (t + 1) from rfl] at hl
        have hl : lv_has ls 7 [(4, Value.int (nI (7 * (t + 1)))), (0, Value.ref b), (1, Value.ref h0), (2, Value.ref mo), (3, Value.ref qo)] := hl
        refine lv_goto (tgt := 23) hx hb dL_law_714 (by decide) ?_
        refine W.widen (k := 67 + (t + 1)) (n := 3176 + 6 * (t + 1)) (by omega) (by omega) ?_
        exact ih X_ln_7 X_tf_8 X_lnm_9 X_s_thrown_10 X_f_tape_11 fk fp tx rl nx tk sa vl fv dsc dto ef1 ef2 ef3 ef4 sc to cf1 cf2 cf3 cf4 sn s_readStairs s_fault s_faultPlace s_end s_next s_kind s_which s_place s_read f_stair f_rules f_told f_rule P bc ho fe w h f1 f2 f3 f4 f5 wm hm bcm s_hours s_fees f_low f_high f_crack B1 B2 B3 B4 B5 B6 B7 f_weight f_fire f_crowd f_state wt f_where wh f6 f_breaks lk wn on ab l1 l2 l3 l4 l5 s_looks f_row f_tried qd cr s1 s2 s3 s4 f_steps f_paths fo (t + 1) (by omega) (by omega) (by omega) (by omega) (by omega) h_17 (by omega) (by omega) (by omega) (by omega) h_22 h_23 h_24 h_25 h_26 h_27 h_28 h_29 h_30 h_31 h_32 h_33 h_34 h_35 h_36 h_37 h_38 h_39 h_40 h_41 (by omega) (by omega) (by omega) H locs (hP.sub [0, 1, 2, 3, 4, 5, 6, 7, 8, 9, 10, 11, 12, 13, 14, 15, 16, 17, 18, 19, 20, 21, 22, 23, 24, 25, 26, 27, 28, 29, 30, 31, 32, 33, 34, 35, 36, 37, 38, 39, 40, 41, 42, 43, 44, 45, 46, 47, 48, 49, 50, 51, 52, 53, 54, 55, 56, 57, 58, 59, 60, 61, 62, 63, 64, 65] rfl) (hD.sub [0, 1, 2, 3, 4, 5, 6, 7, 8, 9, 10, 11, 12, 13, 14, 15, 16, 17, 18, 19, 20, 21, 22, 23, 24, 25, 26, 27, 28, 29, 30, 31, 32, 33, 34, 35, 36, 37, 38, 39, 40, 41, 42, 43, 44, 45, 46, 47, 48, 49, 50, 51, 52, 53, 54, 55, 56, 57, 58, 59, 60, 61, 62, 63, 64, 65] (by decide) rfl) hS ls (lv_sub hl [1, 2, 3, 4, 0] rfl)
      by_cases w_6_1 : z_5 = 1
      · skip
        subst w_6_1
        refine lv_tableIn (tgt := 189) hx hb dL_law_40 (by decide) (by decide) rfl (by decide) ?_
        have hl : lv_has ls 7 [(0, Value.ref b), (1, Value.ref h0), (2, Value.ref mo), (3, Value.ref qo), (4, Value.int (nI (7 * t)))] := hl
        refine lw_case_189 F hA bo B1 B2 B3 B4 B5 B6 B7 h0 tp rd dr fa ly wy tp1 ln tc tf fk fp va tx rl nx tk sa vl vc fv dr1 dr2 dr3 dr4 dsc dto ec1 ef1 ec2 ef2 ec3 ef3 ec4 ef4 cu rv bt bc ho fe cu1 cu2 cu3 cu4 sc to cc1 cf1 cc2 cf2 cc3 cf3 cc4 cf4 w h q1 q2 q3 q4 q5 q6 cy1 f1 cy2 f2 cy3 f3 cy4 f4 cy5 f5 cy6 f6 bc9 lk ly1 wn ly2 ly3 ly4 on ly5 ab lc1 l1 lc2 l2 lc3 l3 lc4 l4 lc5 l5 wy1 wy2 qd wy3 wy4 cr wc1 s1 wc2 s2 wc3 s3 wc4 s4 mo m_tape lnm s_thrown m_rule m_rules sn m_stair s_readStairs s_fault s_faultPlace wm hm m_low m_high m_crack bcm m_weight m_fire m_crowd m_state m_where s_hours s_fees s_looks m_words s_end s_next s_kind s_which s_place s_read m_told m_breaks m_row m_tried m_steps m_paths y_tape f_tape y_rule f_rule y_rules f_rules y_stair f_stair y_low f_low y_high f_high y_crack f_crack y_weight f_weight y_fire f_fire y_crowd f_crowd y_state f_state y_where f_where y_words y_told f_told y_breaks f_breaks y_row f_row y_tried f_tried y_steps f_steps y_paths f_paths qo yo fo (7 * t) (67 + t) (3176 + 6 * t) us e1 e2 e3 e4 en kk b L xs wt wh P (hK.sub [0, 1, 2, 3, 4, 5, 6, 7, 8, 9, 10, 11, 12, 13, 14, 15, 16, 17, 18, 19, 20, 21, 22, 23, 24, 25, 26, 27, 28, 29, 30, 31, 32, 33, 34, 35, 36, 37, 38, 39, 40, 41, 42, 43, 44, 45] rfl) hXC hXE hXs hbl hbA hlt (fun X_ln_42 X_fk_43 X_fp_44 X_tx_45 X_rl_46 X_nx_47 X_tk_48 X_sa_49 X_vl_50 X_fv_51 X_dsc_52 X_dto_53 X_ef1_54 X_ef2_55 X_ef3_56 X_ef4_57 X_sc_58 X_to_59 X_cf1_60 X_cf2_61 X_cf3_62 X_cf4_63 X_lnm_64 X_s_thrown_65 X_sn_66 X_s_readStairs_67 X_s_fault_68 X_s_faultPlace_69 X_s_end_70 X_s_next_71 X_s_kind_72 X_s_which_73 X_s_place_74 X_s_read_75 X_f_stair_76 X_f_rules_77 X_f_told_78 X_f_rule_79 X_P_80 h_81 h_82 h_83 h_84 h_85 h_86 h_87 h_88 h_89 h_90 h_91 h_92 h_93 h_94 h_95 h_96 h_97 h_98 h_99 h_100 h_101 h_102 h_103 h_104 h_105 h_106 h_107 h_108 h_109 h_110 H locs hP hD hS ls hl => ?_) _  (by omega) (by omega) (by omega) (by omega) (by omega) hst (by omega) (by omega) (by omega) (by omega) i_tf i_fk i_fp i_lo i_hi i_ck i_we i_fi i_cr i_st i_ho i_fe i_CI i_wr i_Kc i_Km i_PB i_lb i_ou i_SB (by omega) (by omega) (by omega) (by omega) (Nat.lt_succ_self _) _ _ (hP.sub [0, 1, 2, 3, 4, 5, 6, 7, 8, 9, 10, 11, 12, 13, 14, 15, 16, 17, 18, 19, 20, 21, 22, 23, 24, 25, 26, 27, 28, 29, 30, 31, 32, 33, 34, 35, 36, 37, 38, 39, 40, 41, 42, 43, 44, 45, 46, 47, 48, 49, 50, 51, 52, 53, 54, 55, 56, 57, 58, 59, 60, 61, 62, 63, 64, 65] rfl) (hD.sub [0, 1, 2, 3, 4, 5, 6, 7, 8, 9, 10, 11, 12, 13, 14, 15, 16, 17, 18, 19, 20, 21, 22, 23, 24, 25, 26, 27, 28, 29, 30, 31, 32, 33, 34, 35, 36, 37, 38, 39, 40, 41, 42, 43, 44, 45, 46, 47, 48, 49, 50, 51, 52, 53, 54, 55, 56, 57, 58, 59, 60, 61, 62, 63, 64, 65] (by decide) rfl) hS ls (lv_sub hl [0, 1, 2, 3, 4] rfl)
        have h_81 : X_ln_42 ≤ 400 := h_81
        have h_82 : bc ≤ 10 := h_82
        have h_83 : w ≤ 10 := h_83
        have h_84 : h ≤ 10 := h_84
        have h_85 : X_sn_66 ≤ 4 := h_85
        have h_86 : rOK 100 X_f_stair_76 24 := h_86
        have h_87 : X_lnm_64 = X_ln_42 := h_87
        have h_88 : bcm = bc := h_88
        have h_89 : wm = w := h_89
        have h_90 : hm = h := h_90
        have h_91 : f_tape = tf := h_91
        have h_92 : X_s_fault_68 = X_fk_43 := h_92
        have h_93 : X_s_faultPlace_69 = X_fp_44 := h_93
        have h_94 : f_low = f1 := h_94
        have h_95 : f_high = f2 := h_95
        have h_96 : f_crack = f5 := h_96
        have h_97 : f_weight = B2 := h_97
        have h_98 : f_fire = B3 := h_98
        have h_99 : f_crowd = B4 := h_99
        have h_100 : f_state = B5 := h_100
        have h_101 : s_hours = ho := h_101
        have h_102 : s_fees = fe := h_102
        have h_103 : CI bc w h B1 B2 B5 B6 B7 f3 f4 wt wh := h_103
        have h_104 : ∀ b, b < bc → B5 b = 1 → f_where b = nI (wh b) := h_104
        have h_105 : Kc X_P_80 X_cf1_60 X_cf2_61 X_cf3_62 X_cf4_63 X_sc_58 := h_105
        have h_106 : Km X_P_80 X_sn_66 X_f_rule_79 X_f_stair_76 := h_106
        have h_107 : PB X_P_80 := h_107
        have h_108 : ∀ c, c < 100 → 0 ≤ (f1 c).toInt ∧ (f1 c).toInt ≤ 99 := h_108
        have h_109 : ∀ c, ¬ (c % 10 < w ∧ c / 10 < h) → f5 c = 0 := h_109
        have h_110 : SB X_P_80 := h_110
        refine lv_iinc (v := nI (7 * t + 7)) (lv' := [(4, Value.int (nI (7 * t + 7))), (0, Value.ref b), (1, Value.ref h0), (2, Value.ref mo), (3, Value.ref qo)]) hx hb dL_law_711 hl (k := 4) rfl (nI_add (7 * t) 7) (by decide) rfl (fun ls hl => ?_)
        rw [show 7 * t + 7 = 7 * (t + 1) from rfl] at hl
        have hl : lv_has ls 7 [(4, Value.int (nI (7 * (t + 1)))), (0, Value.ref b), (1, Value.ref h0), (2, Value.ref mo), (3, Value.ref qo)] := hl
        refine lv_goto (tgt := 23) hx hb dL_law_714 (by decide) ?_
        refine W.widen (k := 67 + (t + 1)) (n := 3176 + 6 * (t + 1)) (by omega) (by omega) ?_
        exact ih X_ln_42 tf X_lnm_64 X_s_thrown_65 f_tape X_fk_43 X_fp_44 X_tx_45 X_rl_46 X_nx_47 X_tk_48 X_sa_49 X_vl_50 X_fv_51 X_dsc_52 X_dto_53 X_ef1_54 X_ef2_55 X_ef3_56 X_ef4_57 X_sc_58 X_to_59 X_cf1_60 X_cf2_61 X_cf3_62 X_cf4_63 X_sn_66 X_s_readStairs_67 X_s_fault_68 X_s_faultPlace_69 X_s_end_70 X_s_next_71 X_s_kind_72 X_s_which_73 X_s_place_74 X_s_read_75 X_f_stair_76 X_f_rules_77 X_f_told_78 X_f_rule_79 X_P_80 bc ho fe w h f1 f2 f3 f4 f5 wm hm bcm s_hours s_fees f_low f_high f_crack B1 B2 B3 B4 B5 B6 B7 f_weight f_fire f_crowd f_state wt f_where wh f6 f_breaks lk wn on ab l1 l2 l3 l4 l5 s_looks f_row f_tried qd cr s1 s2 s3 s4 f_steps f_paths fo (t + 1) (by omega) (by omega) (by omega) (by omega) (by omega) h_86 (by omega) (by omega) (by omega) (by omega) h_91 h_92 h_93 h_94 h_95 h_96 h_97 h_98 h_99 h_100 h_101 h_102 h_103 h_104 h_105 h_106 h_107 h_108 h_109 h_110 (by omega) (by omega) (by omega) H locs (hP.sub [0, 1, 2, 3, 4, 5, 6, 7, 8, 9, 10, 11, 12, 13, 14, 15, 16, 17, 18, 19, 20, 21, 22, 23, 24, 25, 26, 27, 28, 29, 30, 31, 32, 33, 34, 35, 36, 37, 38, 39, 40, 41, 42, 43, 44, 45, 46, 47, 48, 49, 50, 51, 52, 53, 54, 55, 56, 57, 58, 59, 60, 61, 62, 63, 64, 65] rfl) (hD.sub [0, 1, 2, 3, 4, 5, 6, 7, 8, 9, 10, 11, 12, 13, 14, 15, 16, 17, 18, 19, 20, 21, 22, 23, 24, 25, 26, 27, 28, 29, 30, 31, 32, 33, 34, 35, 36, 37, 38, 39, 40, 41, 42, 43, 44, 45, 46, 47, 48, 49, 50, 51, 52, 53, 54, 55, 56, 57, 58, 59, 60, 61, 62, 63, 64, 65] (by decide) rfl) hS ls (lv_sub hl [1, 2, 3, 4, 0] rfl)
      by_cases w_6_2 : z_5 = 2
      · skip
        subst w_6_2
        refine lv_tableIn (tgt := 214) hx hb dL_law_40 (by decide) (by decide) rfl (by decide) ?_
        have hl : lv_has ls 7 [(0, Value.ref b), (1, Value.ref h0), (2, Value.ref mo), (3, Value.ref qo), (4, Value.int (nI (7 * t)))] := hl
        refine lw_case_214 F hA bo B1 B2 B3 B4 B5 B6 B7 h0 tp rd dr fa ly wy tp1 ln tc tf fk fp va tx rl nx tk sa vl vc fv dr1 dr2 dr3 dr4 dsc dto ec1 ef1 ec2 ef2 ec3 ef3 ec4 ef4 cu rv bt bc ho fe cu1 cu2 cu3 cu4 sc to cc1 cf1 cc2 cf2 cc3 cf3 cc4 cf4 w h q1 q2 q3 q4 q5 q6 cy1 f1 cy2 f2 cy3 f3 cy4 f4 cy5 f5 cy6 f6 bc9 lk ly1 wn ly2 ly3 ly4 on ly5 ab lc1 l1 lc2 l2 lc3 l3 lc4 l4 lc5 l5 wy1 wy2 qd wy3 wy4 cr wc1 s1 wc2 s2 wc3 s3 wc4 s4 mo m_tape lnm s_thrown m_rule m_rules sn m_stair s_readStairs s_fault s_faultPlace wm hm m_low m_high m_crack bcm m_weight m_fire m_crowd m_state m_where s_hours s_fees s_looks m_words s_end s_next s_kind s_which s_place s_read m_told m_breaks m_row m_tried m_steps m_paths y_tape f_tape y_rule f_rule y_rules f_rules y_stair f_stair y_low f_low y_high f_high y_crack f_crack y_weight f_weight y_fire f_fire y_crowd f_crowd y_state f_state y_where f_where y_words y_told f_told y_breaks f_breaks y_row f_row y_tried f_tried y_steps f_steps y_paths f_paths qo yo fo (7 * t) (67 + t) (3176 + 6 * t) us e1 e2 e3 e4 en kk b L xs wt wh P (hK.sub [0, 1, 2, 3, 4, 5, 6, 7, 8, 9, 10, 11, 12, 13, 14, 15, 16, 17, 18, 19, 20, 21, 22, 23, 24, 25, 26, 27, 28, 29, 30, 31, 32, 33, 34, 35, 36, 37, 38, 39, 40, 41, 42, 43, 44, 45] rfl) hXC hXE hXs hbl hbA hlt (fun X_s_thrown_111 h_112 h_113 h_114 h_115 h_116 h_117 h_118 h_119 h_120 h_121 h_122 h_123 h_124 h_125 h_126 h_127 h_128 h_129 h_130 h_131 h_132 h_133 h_134 h_135 h_136 h_137 h_138 h_139 h_140 h_141 H locs hP hD hS ls hl => ?_) _  (by omega) (by omega) (by omega) (by omega) (by omega) hst (by omega) (by omega) (by omega) (by omega) i_tf i_fk i_fp i_lo i_hi i_ck i_we i_fi i_cr i_st i_ho i_fe i_CI i_wr i_Kc i_Km i_PB i_lb i_ou i_SB (by omega) (by omega) (by omega) (by omega) (Nat.lt_succ_self _) _ _ (hP.sub [0, 1, 2, 3, 4, 5, 6, 7, 8, 9, 10, 11, 12, 13, 14, 15, 16, 17, 18, 19, 20, 21, 22, 23, 24, 25, 26, 27, 28, 29, 30, 31, 32, 33, 34, 35, 36, 37, 38, 39, 40, 41, 42, 43, 44, 45, 46, 47, 48, 49, 50, 51, 52, 53, 54, 55, 56, 57, 58, 59, 60, 61, 62, 63, 64, 65] rfl) (hD.sub [0, 1, 2, 3, 4, 5, 6, 7, 8, 9, 10, 11, 12, 13, 14, 15, 16, 17, 18, 19, 20, 21, 22, 23, 24, 25, 26, 27, 28, 29, 30, 31, 32, 33, 34, 35, 36, 37, 38, 39, 40, 41, 42, 43, 44, 45, 46, 47, 48, 49, 50, 51, 52, 53, 54, 55, 56, 57, 58, 59, 60, 61, 62, 63, 64, 65] (by decide) rfl) hS ls (lv_sub hl [0, 1, 2, 3, 4] rfl)
        have h_112 : ln ≤ 400 := h_112
        have h_113 : bc ≤ 10 := h_113
        have h_114 : w ≤ 10 := h_114
        have h_115 : h ≤ 10 := h_115
        have h_116 : sn ≤ 4 := h_116
        have h_117 : rOK 100 f_stair 24 := h_117
        have h_118 : lnm = ln := h_118
        have h_119 : bcm = bc := h_119
        have h_120 : wm = w := h_120
        have h_121 : hm = h := h_121
        have h_122 : f_tape = tf := h_122
        have h_123 : s_fault = fk := h_123
        have h_124 : s_faultPlace = fp := h_124
        have h_125 : f_low = f1 := h_125
        have h_126 : f_high = f2 := h_126
        have h_127 : f_crack = f5 := h_127
        have h_128 : f_weight = B2 := h_128
        have h_129 : f_fire = B3 := h_129
        have h_130 : f_crowd = B4 := h_130
        have h_131 : f_state = B5 := h_131
        have h_132 : s_hours = ho := h_132
        have h_133 : s_fees = fe := h_133
        have h_134 : CI bc w h B1 B2 B5 B6 B7 f3 f4 wt wh := h_134
        have h_135 : ∀ b, b < bc → B5 b = 1 → f_where b = nI (wh b) := h_135
        have h_136 : Kc P cf1 cf2 cf3 cf4 sc := h_136
        have h_137 : Km P sn f_rule f_stair := h_137
        have h_138 : PB P := h_138
        have h_139 : ∀ c, c < 100 → 0 ≤ (f1 c).toInt ∧ (f1 c).toInt ≤ 99 := h_139
        have h_140 : ∀ c, ¬ (c % 10 < w ∧ c / 10 < h) → f5 c = 0 := h_140
        have h_141 : SB P := h_141
        refine lv_iinc (v := nI (7 * t + 7)) (lv' := [(4, Value.int (nI (7 * t + 7))), (0, Value.ref b), (1, Value.ref h0), (2, Value.ref mo), (3, Value.ref qo)]) hx hb dL_law_711 hl (k := 4) rfl (nI_add (7 * t) 7) (by decide) rfl (fun ls hl => ?_)
        rw [show 7 * t + 7 = 7 * (t + 1) from rfl] at hl
        have hl : lv_has ls 7 [(4, Value.int (nI (7 * (t + 1)))), (0, Value.ref b), (1, Value.ref h0), (2, Value.ref mo), (3, Value.ref qo)] := hl
        refine lv_goto (tgt := 23) hx hb dL_law_714 (by decide) ?_
        refine W.widen (k := 67 + (t + 1)) (n := 3176 + 6 * (t + 1)) (by omega) (by omega) ?_
        exact ih ln tf lnm X_s_thrown_111 f_tape fk fp tx rl nx tk sa vl fv dsc dto ef1 ef2 ef3 ef4 sc to cf1 cf2 cf3 cf4 sn s_readStairs s_fault s_faultPlace s_end s_next s_kind s_which s_place s_read f_stair f_rules f_told f_rule P bc ho fe w h f1 f2 f3 f4 f5 wm hm bcm s_hours s_fees f_low f_high f_crack B1 B2 B3 B4 B5 B6 B7 f_weight f_fire f_crowd f_state wt f_where wh f6 f_breaks lk wn on ab l1 l2 l3 l4 l5 s_looks f_row f_tried qd cr s1 s2 s3 s4 f_steps f_paths fo (t + 1) (by omega) (by omega) (by omega) (by omega) (by omega) h_117 (by omega) (by omega) (by omega) (by omega) h_122 h_123 h_124 h_125 h_126 h_127 h_128 h_129 h_130 h_131 h_132 h_133 h_134 h_135 h_136 h_137 h_138 h_139 h_140 h_141 (by omega) (by omega) (by omega) H locs (hP.sub [0, 1, 2, 3, 4, 5, 6, 7, 8, 9, 10, 11, 12, 13, 14, 15, 16, 17, 18, 19, 20, 21, 22, 23, 24, 25, 26, 27, 28, 29, 30, 31, 32, 33, 34, 35, 36, 37, 38, 39, 40, 41, 42, 43, 44, 45, 46, 47, 48, 49, 50, 51, 52, 53, 54, 55, 56, 57, 58, 59, 60, 61, 62, 63, 64, 65] rfl) (hD.sub [0, 1, 2, 3, 4, 5, 6, 7, 8, 9, 10, 11, 12, 13, 14, 15, 16, 17, 18, 19, 20, 21, 22, 23, 24, 25, 26, 27, 28, 29, 30, 31, 32, 33, 34, 35, 36, 37, 38, 39, 40, 41, 42, 43, 44, 45, 46, 47, 48, 49, 50, 51, 52, 53, 54, 55, 56, 57, 58, 59, 60, 61, 62, 63, 64, 65] (by decide) rfl) hS ls (lv_sub hl [1, 2, 3, 4, 0] rfl)
      by_cases w_6_3 : z_5 = 3
      · skip
        subst w_6_3
        refine lv_tableIn (tgt := 239) hx hb dL_law_40 (by decide) (by decide) rfl (by decide) ?_
        have hl : lv_has ls 7 [(0, Value.ref b), (1, Value.ref h0), (2, Value.ref mo), (3, Value.ref qo), (4, Value.int (nI (7 * t)))] := hl
        refine lw_case_239 F hA bo B1 B2 B3 B4 B5 B6 B7 h0 tp rd dr fa ly wy tp1 ln tc tf fk fp va tx rl nx tk sa vl vc fv dr1 dr2 dr3 dr4 dsc dto ec1 ef1 ec2 ef2 ec3 ef3 ec4 ef4 cu rv bt bc ho fe cu1 cu2 cu3 cu4 sc to cc1 cf1 cc2 cf2 cc3 cf3 cc4 cf4 w h q1 q2 q3 q4 q5 q6 cy1 f1 cy2 f2 cy3 f3 cy4 f4 cy5 f5 cy6 f6 bc9 lk ly1 wn ly2 ly3 ly4 on ly5 ab lc1 l1 lc2 l2 lc3 l3 lc4 l4 lc5 l5 wy1 wy2 qd wy3 wy4 cr wc1 s1 wc2 s2 wc3 s3 wc4 s4 mo m_tape lnm s_thrown m_rule m_rules sn m_stair s_readStairs s_fault s_faultPlace wm hm m_low m_high m_crack bcm m_weight m_fire m_crowd m_state m_where s_hours s_fees s_looks m_words s_end s_next s_kind s_which s_place s_read m_told m_breaks m_row m_tried m_steps m_paths y_tape f_tape y_rule f_rule y_rules f_rules y_stair f_stair y_low f_low y_high f_high y_crack f_crack y_weight f_weight y_fire f_fire y_crowd f_crowd y_state f_state y_where f_where y_words y_told f_told y_breaks f_breaks y_row f_row y_tried f_tried y_steps f_steps y_paths f_paths qo yo fo (7 * t) (67 + t) (3176 + 6 * t) us e1 e2 e3 e4 en kk b L xs wt wh P (hK.sub [0, 1, 2, 3, 4, 5, 6, 7, 8, 9, 10, 11, 12, 13, 14, 15, 16, 17, 18, 19, 20, 21, 22, 23, 24, 25, 26, 27, 28, 29, 30, 31, 32, 33, 34, 35, 36, 37, 38, 39, 40, 41, 42, 43, 44, 45] rfl) hXC hXE hXs hbl hbA hlt (fun X_bc_142 X_ho_143 X_fe_144 X_w_145 X_h_146 X_f1_147 X_f2_148 X_f3_149 X_f4_150 X_f5_151 X_s_thrown_152 X_wm_153 X_hm_154 X_bcm_155 X_s_hours_156 X_s_fees_157 X_f_low_158 X_f_high_159 X_f_crack_160 h_161 h_162 h_163 h_164 h_165 h_166 h_167 h_168 h_169 h_170 h_171 h_172 h_173 h_174 h_175 h_176 h_177 h_178 h_179 h_180 h_181 h_182 h_183 h_184 h_185 h_186 h_187 h_188 h_189 h_190 H locs hP hD hS ls hl => ?_) _  (by omega) (by omega) (by omega) (by omega) (by omega) hst (by omega) (by omega) (by omega) (by omega) i_tf i_fk i_fp i_lo i_hi i_ck i_we i_fi i_cr i_st i_ho i_fe i_CI i_wr i_Kc i_Km i_PB i_lb i_ou i_SB (by omega) (by omega) (by omega) (by omega) (Nat.lt_succ_self _) _ _ (hP.sub [0, 1, 2, 3, 4, 5, 6, 7, 8, 9, 10, 11, 12, 13, 14, 15, 16, 17, 18, 19, 20, 21, 22, 23, 24, 25, 26, 27, 28, 29, 30, 31, 32, 33, 34, 35, 36, 37, 38, 39, 40, 41, 42, 43, 44, 45, 46, 47, 48, 49, 50, 51, 52, 53, 54, 55, 56, 57, 58, 59, 60, 61, 62, 63, 64, 65] rfl) (hD.sub [0, 1, 2, 3, 4, 5, 6, 7, 8, 9, 10, 11, 12, 13, 14, 15, 16, 17, 18, 19, 20, 21, 22, 23, 24, 25, 26, 27, 28, 29, 30, 31, 32, 33, 34, 35, 36, 37, 38, 39, 40, 41, 42, 43, 44, 45, 46, 47, 48, 49, 50, 51, 52, 53, 54, 55, 56, 57, 58, 59, 60, 61, 62, 63, 64, 65] (by decide) rfl) hS ls (lv_sub hl [0, 1, 2, 3, 4] rfl)
        have h_161 : ln ≤ 400 := h_161
        have h_162 : X_bc_142 ≤ 10 := h_162
        have h_163 : X_w_145 ≤ 10 := h_163
        have h_164 : X_h_146 ≤ 10 := h_164
        have h_165 : sn ≤ 4 := h_165
        have h_166 : rOK 100 f_stair 24 := h_166
        have h_167 : lnm = ln := h_167
        have h_168 : X_bcm_155 = X_bc_142 := h_168
        have h_169 : X_wm_153 = X_w_145 := h_169
        have h_170 : X_hm_154 = X_h_146 := h_170
        have h_171 : f_tape = tf := h_171
        have h_172 : s_fault = fk := h_172
        have h_173 : s_faultPlace = fp := h_173
        have h_174 : X_f_low_158 = X_f1_147 := h_174
        have h_175 : X_f_high_159 = X_f2_148 := h_175
        have h_176 : X_f_crack_160 = X_f5_151 := h_176
        have h_177 : f_weight = B2 := h_177
        have h_178 : f_fire = B3 := h_178
        have h_179 : f_crowd = B4 := h_179
        have h_180 : f_state = B5 := h_180
        have h_181 : X_s_hours_156 = X_ho_143 := h_181
        have h_182 : X_s_fees_157 = X_fe_144 := h_182
        have h_183 : CI X_bc_142 X_w_145 X_h_146 B1 B2 B5 B6 B7 X_f3_149 X_f4_150 wt wh := h_183
        have h_184 : ∀ b, b < X_bc_142 → B5 b = 1 → f_where b = nI (wh b) := h_184
        have h_185 : Kc P cf1 cf2 cf3 cf4 sc := h_185
        have h_186 : Km P sn f_rule f_stair := h_186
        have h_187 : PB P := h_187
        have h_188 : ∀ c, c < 100 → 0 ≤ (X_f1_147 c).toInt ∧ (X_f1_147 c).toInt ≤ 99 := h_188
        have h_189 : ∀ c, ¬ (c % 10 < X_w_145 ∧ c / 10 < X_h_146) → X_f5_151 c = 0 := h_189
        have h_190 : SB P := h_190
        refine lv_iinc (v := nI (7 * t + 7)) (lv' := [(4, Value.int (nI (7 * t + 7))), (0, Value.ref b), (1, Value.ref h0), (2, Value.ref mo), (3, Value.ref qo)]) hx hb dL_law_711 hl (k := 4) rfl (nI_add (7 * t) 7) (by decide) rfl (fun ls hl => ?_)
        rw [show 7 * t + 7 = 7 * (t + 1) from rfl] at hl
        have hl : lv_has ls 7 [(4, Value.int (nI (7 * (t + 1)))), (0, Value.ref b), (1, Value.ref h0), (2, Value.ref mo), (3, Value.ref qo)] := hl
        refine lv_goto (tgt := 23) hx hb dL_law_714 (by decide) ?_
        refine W.widen (k := 67 + (t + 1)) (n := 3176 + 6 * (t + 1)) (by omega) (by omega) ?_
        exact ih ln tf lnm X_s_thrown_152 f_tape fk fp tx rl nx tk sa vl fv dsc dto ef1 ef2 ef3 ef4 sc to cf1 cf2 cf3 cf4 sn s_readStairs s_fault s_faultPlace s_end s_next s_kind s_which s_place s_read f_stair f_rules f_told f_rule P X_bc_142 X_ho_143 X_fe_144 X_w_145 X_h_146 X_f1_147 X_f2_148 X_f3_149 X_f4_150 X_f5_151 X_wm_153 X_hm_154 X_bcm_155 X_s_hours_156 X_s_fees_157 X_f_low_158 X_f_high_159 X_f_crack_160 B1 B2 B3 B4 B5 B6 B7 f_weight f_fire f_crowd f_state wt f_where wh f6 f_breaks lk wn on ab l1 l2 l3 l4 l5 s_looks f_row f_tried qd cr s1 s2 s3 s4 f_steps f_paths fo (t + 1) (by omega) (by omega) (by omega) (by omega) (by omega) h_166 (by omega) (by omega) (by omega) (by omega) h_171 h_172 h_173 h_174 h_175 h_176 h_177 h_178 h_179 h_180 h_181 h_182 h_183 h_184 h_185 h_186 h_187 h_188 h_189 h_190 (by omega) (by omega) (by omega) H locs (hP.sub [0, 1, 2, 3, 4, 5, 6, 7, 8, 9, 10, 11, 12, 13, 14, 15, 16, 17, 18, 19, 20, 21, 22, 23, 24, 25, 26, 27, 28, 29, 30, 31, 32, 33, 34, 35, 36, 37, 38, 39, 40, 41, 42, 43, 44, 45, 46, 47, 48, 49, 50, 51, 52, 53, 54, 55, 56, 57, 58, 59, 60, 61, 62, 63, 64, 65] rfl) (hD.sub [0, 1, 2, 3, 4, 5, 6, 7, 8, 9, 10, 11, 12, 13, 14, 15, 16, 17, 18, 19, 20, 21, 22, 23, 24, 25, 26, 27, 28, 29, 30, 31, 32, 33, 34, 35, 36, 37, 38, 39, 40, 41, 42, 43, 44, 45, 46, 47, 48, 49, 50, 51, 52, 53, 54, 55, 56, 57, 58, 59, 60, 61, 62, 63, 64, 65] (by decide) rfl) hS ls (lv_sub hl [1, 2, 3, 4, 0] rfl)
      by_cases w_6_4 : z_5 = 4
      · skip
        subst w_6_4
        refine lv_tableIn (tgt := 276) hx hb dL_law_40 (by decide) (by decide) rfl (by decide) ?_
        have hl : lv_has ls 7 [(0, Value.ref b), (1, Value.ref h0), (2, Value.ref mo), (3, Value.ref qo), (4, Value.int (nI (7 * t)))] := hl
        refine lw_case_276 F hA bo B1 B2 B3 B4 B5 B6 B7 h0 tp rd dr fa ly wy tp1 ln tc tf fk fp va tx rl nx tk sa vl vc fv dr1 dr2 dr3 dr4 dsc dto ec1 ef1 ec2 ef2 ec3 ef3 ec4 ef4 cu rv bt bc ho fe cu1 cu2 cu3 cu4 sc to cc1 cf1 cc2 cf2 cc3 cf3 cc4 cf4 w h q1 q2 q3 q4 q5 q6 cy1 f1 cy2 f2 cy3 f3 cy4 f4 cy5 f5 cy6 f6 bc9 lk ly1 wn ly2 ly3 ly4 on ly5 ab lc1 l1 lc2 l2 lc3 l3 lc4 l4 lc5 l5 wy1 wy2 qd wy3 wy4 cr wc1 s1 wc2 s2 wc3 s3 wc4 s4 mo m_tape lnm s_thrown m_rule m_rules sn m_stair s_readStairs s_fault s_faultPlace wm hm m_low m_high m_crack bcm m_weight m_fire m_crowd m_state m_where s_hours s_fees s_looks m_words s_end s_next s_kind s_which s_place s_read m_told m_breaks m_row m_tried m_steps m_paths y_tape f_tape y_rule f_rule y_rules f_rules y_stair f_stair y_low f_low y_high f_high y_crack f_crack y_weight f_weight y_fire f_fire y_crowd f_crowd y_state f_state y_where f_where y_words y_told f_told y_breaks f_breaks y_row f_row y_tried f_tried y_steps f_steps y_paths f_paths qo yo fo (7 * t) (67 + t) (3176 + 6 * t) us e1 e2 e3 e4 en kk b L xs wt wh P (hK.sub [0, 1, 2, 3, 4, 5, 6, 7, 8, 9, 10, 11, 12, 13, 14, 15, 16, 17, 18, 19, 20, 21, 22, 23, 24, 25, 26, 27, 28, 29, 30, 31, 32, 33, 34, 35, 36, 37, 38, 39, 40, 41, 42, 43, 44, 45] rfl) hXC hXE hXs hbl hbA hlt (fun X_f1_191 X_f2_192 X_s_thrown_193 X_f_low_194 X_f_high_195 h_196 h_197 h_198 h_199 h_200 h_201 h_202 h_203 h_204 h_205 h_206 h_207 h_208 h_209 h_210 h_211 h_212 h_213 h_214 h_215 h_216 h_217 h_218 h_219 h_220 h_221 h_222 h_223 h_224 h_225 H locs hP hD hS ls hl => ?_) _  (by omega) (by omega) (by omega) (by omega) (by omega) hst (by omega) (by omega) (by omega) (by omega) i_tf i_fk i_fp i_lo i_hi i_ck i_we i_fi i_cr i_st i_ho i_fe i_CI i_wr i_Kc i_Km i_PB i_lb i_ou i_SB (by omega) (by omega) (by omega) (by omega) (Nat.lt_succ_self _) _ _ (hP.sub [0, 1, 2, 3, 4, 5, 6, 7, 8, 9, 10, 11, 12, 13, 14, 15, 16, 17, 18, 19, 20, 21, 22, 23, 24, 25, 26, 27, 28, 29, 30, 31, 32, 33, 34, 35, 36, 37, 38, 39, 40, 41, 42, 43, 44, 45, 46, 47, 48, 49, 50, 51, 52, 53, 54, 55, 56, 57, 58, 59, 60, 61, 62, 63, 64, 65] rfl) (hD.sub [0, 1, 2, 3, 4, 5, 6, 7, 8, 9, 10, 11, 12, 13, 14, 15, 16, 17, 18, 19, 20, 21, 22, 23, 24, 25, 26, 27, 28, 29, 30, 31, 32, 33, 34, 35, 36, 37, 38, 39, 40, 41, 42, 43, 44, 45, 46, 47, 48, 49, 50, 51, 52, 53, 54, 55, 56, 57, 58, 59, 60, 61, 62, 63, 64, 65] (by decide) rfl) hS ls (lv_sub hl [0, 1, 2, 3, 4] rfl)
        have h_196 : ln ≤ 400 := h_196
        have h_197 : bc ≤ 10 := h_197
        have h_198 : w ≤ 10 := h_198
        have h_199 : h ≤ 10 := h_199
        have h_200 : sn ≤ 4 := h_200
        have h_201 : rOK 100 f_stair 24 := h_201
        have h_202 : lnm = ln := h_202
        have h_203 : bcm = bc := h_203
        have h_204 : wm = w := h_204
        have h_205 : hm = h := h_205
        have h_206 : f_tape = tf := h_206
        have h_207 : s_fault = fk := h_207
        have h_208 : s_faultPlace = fp := h_208
        have h_209 : X_f_low_194 = X_f1_191 := h_209
        have h_210 : X_f_high_195 = X_f2_192 := h_210
        have h_211 : f_crack = f5 := h_211
        have h_212 : f_weight = B2 := h_212
        have h_213 : f_fire = B3 := h_213
        have h_214 : f_crowd = B4 := h_214
        have h_215 : f_state = B5 := h_215
        have h_216 : s_hours = ho := h_216
        have h_217 : s_fees = fe := h_217
        have h_218 : CI bc w h B1 B2 B5 B6 B7 f3 f4 wt wh := h_218
        have h_219 : ∀ b, b < bc → B5 b = 1 → f_where b = nI (wh b) := h_219
        have h_220 : Kc P cf1 cf2 cf3 cf4 sc := h_220
        have h_221 : Km P sn f_rule f_stair := h_221
        have h_222 : PB P := h_222
        have h_223 : ∀ c, c < 100 → 0 ≤ (X_f1_191 c).toInt ∧ (X_f1_191 c).toInt ≤ 99 := h_223
        have h_224 : ∀ c, ¬ (c % 10 < w ∧ c / 10 < h) → f5 c = 0 := h_224
        have h_225 : SB P := h_225
        refine lv_iinc (v := nI (7 * t + 7)) (lv' := [(4, Value.int (nI (7 * t + 7))), (0, Value.ref b), (1, Value.ref h0), (2, Value.ref mo), (3, Value.ref qo)]) hx hb dL_law_711 hl (k := 4) rfl (nI_add (7 * t) 7) (by decide) rfl (fun ls hl => ?_)
        rw [show 7 * t + 7 = 7 * (t + 1) from rfl] at hl
        have hl : lv_has ls 7 [(4, Value.int (nI (7 * (t + 1)))), (0, Value.ref b), (1, Value.ref h0), (2, Value.ref mo), (3, Value.ref qo)] := hl
        refine lv_goto (tgt := 23) hx hb dL_law_714 (by decide) ?_
        refine W.widen (k := 67 + (t + 1)) (n := 3176 + 6 * (t + 1)) (by omega) (by omega) ?_
        exact ih ln tf lnm X_s_thrown_193 f_tape fk fp tx rl nx tk sa vl fv dsc dto ef1 ef2 ef3 ef4 sc to cf1 cf2 cf3 cf4 sn s_readStairs s_fault s_faultPlace s_end s_next s_kind s_which s_place s_read f_stair f_rules f_told f_rule P bc ho fe w h X_f1_191 X_f2_192 f3 f4 f5 wm hm bcm s_hours s_fees X_f_low_194 X_f_high_195 f_crack B1 B2 B3 B4 B5 B6 B7 f_weight f_fire f_crowd f_state wt f_where wh f6 f_breaks lk wn on ab l1 l2 l3 l4 l5 s_looks f_row f_tried qd cr s1 s2 s3 s4 f_steps f_paths fo (t + 1) (by omega) (by omega) (by omega) (by omega) (by omega) h_201 (by omega) (by omega) (by omega) (by omega) h_206 h_207 h_208 h_209 h_210 h_211 h_212 h_213 h_214 h_215 h_216 h_217 h_218 h_219 h_220 h_221 h_222 h_223 h_224 h_225 (by omega) (by omega) (by omega) H locs (hP.sub [0, 1, 2, 3, 4, 5, 6, 7, 8, 9, 10, 11, 12, 13, 14, 15, 16, 17, 18, 19, 20, 21, 22, 23, 24, 25, 26, 27, 28, 29, 30, 31, 32, 33, 34, 35, 36, 37, 38, 39, 40, 41, 42, 43, 44, 45, 46, 47, 48, 49, 50, 51, 52, 53, 54, 55, 56, 57, 58, 59, 60, 61, 62, 63, 64, 65] rfl) (hD.sub [0, 1, 2, 3, 4, 5, 6, 7, 8, 9, 10, 11, 12, 13, 14, 15, 16, 17, 18, 19, 20, 21, 22, 23, 24, 25, 26, 27, 28, 29, 30, 31, 32, 33, 34, 35, 36, 37, 38, 39, 40, 41, 42, 43, 44, 45, 46, 47, 48, 49, 50, 51, 52, 53, 54, 55, 56, 57, 58, 59, 60, 61, 62, 63, 64, 65] (by decide) rfl) hS ls (lv_sub hl [1, 2, 3, 4, 0] rfl)
      by_cases w_6_5 : z_5 = 5
      · skip
        subst w_6_5
        refine lv_tableIn (tgt := 363) hx hb dL_law_40 (by decide) (by decide) rfl (by decide) ?_
        have hl : lv_has ls 7 [(0, Value.ref b), (1, Value.ref h0), (2, Value.ref mo), (3, Value.ref qo), (4, Value.int (nI (7 * t)))] := hl
        refine lw_case_363 F hA bo B1 B2 B3 B4 B5 B6 B7 h0 tp rd dr fa ly wy tp1 ln tc tf fk fp va tx rl nx tk sa vl vc fv dr1 dr2 dr3 dr4 dsc dto ec1 ef1 ec2 ef2 ec3 ef3 ec4 ef4 cu rv bt bc ho fe cu1 cu2 cu3 cu4 sc to cc1 cf1 cc2 cf2 cc3 cf3 cc4 cf4 w h q1 q2 q3 q4 q5 q6 cy1 f1 cy2 f2 cy3 f3 cy4 f4 cy5 f5 cy6 f6 bc9 lk ly1 wn ly2 ly3 ly4 on ly5 ab lc1 l1 lc2 l2 lc3 l3 lc4 l4 lc5 l5 wy1 wy2 qd wy3 wy4 cr wc1 s1 wc2 s2 wc3 s3 wc4 s4 mo m_tape lnm s_thrown m_rule m_rules sn m_stair s_readStairs s_fault s_faultPlace wm hm m_low m_high m_crack bcm m_weight m_fire m_crowd m_state m_where s_hours s_fees s_looks m_words s_end s_next s_kind s_which s_place s_read m_told m_breaks m_row m_tried m_steps m_paths y_tape f_tape y_rule f_rule y_rules f_rules y_stair f_stair y_low f_low y_high f_high y_crack f_crack y_weight f_weight y_fire f_fire y_crowd f_crowd y_state f_state y_where f_where y_words y_told f_told y_breaks f_breaks y_row f_row y_tried f_tried y_steps f_steps y_paths f_paths qo yo fo (7 * t) (67 + t) (3176 + 6 * t) us e1 e2 e3 e4 en kk b L xs wt wh P (hK.sub [0, 1, 2, 3, 4, 5, 6, 7, 8, 9, 10, 11, 12, 13, 14, 15, 16, 17, 18, 19, 20, 21, 22, 23, 24, 25, 26, 27, 28, 29, 30, 31, 32, 33, 34, 35, 36, 37, 38, 39, 40, 41, 42, 43, 44, 45] rfl) hXC hXE hXs hbl hbA hlt (fun X_B1_226 X_B2_227 X_B3_228 X_B4_229 X_B5_230 X_B6_231 X_B7_232 X_bc_233 X_s_thrown_234 X_bcm_235 X_f_weight_236 X_f_fire_237 X_f_crowd_238 X_f_state_239 X_wt_240 h_241 h_242 h_243 h_244 h_245 h_246 h_247 h_248 h_249 h_250 h_251 h_252 h_253 h_254 h_255 h_256 h_257 h_258 h_259 h_260 h_261 h_262 h_263 h_264 h_265 h_266 h_267 h_268 h_269 h_270 H locs hP hD hS ls hl => ?_) _  (by omega) (by omega) (by omega) (by omega) (by omega) hst (by omega) (by omega) (by omega) (by omega) i_tf i_fk i_fp i_lo i_hi i_ck i_we i_fi i_cr i_st i_ho i_fe i_CI i_wr i_Kc i_Km i_PB i_lb i_ou i_SB (by omega) (by omega) (by omega) (by omega) (Nat.lt_succ_self _) _ _ (hP.sub [0, 1, 2, 3, 4, 5, 6, 7, 8, 9, 10, 11, 12, 13, 14, 15, 16, 17, 18, 19, 20, 21, 22, 23, 24, 25, 26, 27, 28, 29, 30, 31, 32, 33, 34, 35, 36, 37, 38, 39, 40, 41, 42, 43, 44, 45, 46, 47, 48, 49, 50, 51, 52, 53, 54, 55, 56, 57, 58, 59, 60, 61, 62, 63, 64, 65] rfl) (hD.sub [0, 1, 2, 3, 4, 5, 6, 7, 8, 9, 10, 11, 12, 13, 14, 15, 16, 17, 18, 19, 20, 21, 22, 23, 24, 25, 26, 27, 28, 29, 30, 31, 32, 33, 34, 35, 36, 37, 38, 39, 40, 41, 42, 43, 44, 45, 46, 47, 48, 49, 50, 51, 52, 53, 54, 55, 56, 57, 58, 59, 60, 61, 62, 63, 64, 65] (by decide) rfl) hS ls (lv_sub hl [0, 1, 2, 3, 4] rfl)
        have h_241 : ln ≤ 400 := h_241
        have h_242 : X_bc_233 ≤ 10 := h_242
        have h_243 : w ≤ 10 := h_243
        have h_244 : h ≤ 10 := h_244
        have h_245 : sn ≤ 4 := h_245
        have h_246 : rOK 100 f_stair 24 := h_246
        have h_247 : lnm = ln := h_247
        have h_248 : X_bcm_235 = X_bc_233 := h_248
        have h_249 : wm = w := h_249
        have h_250 : hm = h := h_250
        have h_251 : f_tape = tf := h_251
        have h_252 : s_fault = fk := h_252
        have h_253 : s_faultPlace = fp := h_253
        have h_254 : f_low = f1 := h_254
        have h_255 : f_high = f2 := h_255
        have h_256 : f_crack = f5 := h_256
        have h_257 : X_f_weight_236 = X_B2_227 := h_257
        have h_258 : X_f_fire_237 = X_B3_228 := h_258
        have h_259 : X_f_crowd_238 = X_B4_229 := h_259
        have h_260 : X_f_state_239 = X_B5_230 := h_260
        have h_261 : s_hours = ho := h_261
        have h_262 : s_fees = fe := h_262
        have h_263 : CI X_bc_233 w h X_B1_226 X_B2_227 X_B5_230 X_B6_231 X_B7_232 f3 f4 X_wt_240 wh := h_263
        have h_264 : ∀ b, b < X_bc_233 → X_B5_230 b = 1 → f_where b = nI (wh b) := h_264
        have h_265 : Kc P cf1 cf2 cf3 cf4 sc := h_265
        have h_266 : Km P sn f_rule f_stair := h_266
        have h_267 : PB P := h_267
        have h_268 : ∀ c, c < 100 → 0 ≤ (f1 c).toInt ∧ (f1 c).toInt ≤ 99 := h_268
        have h_269 : ∀ c, ¬ (c % 10 < w ∧ c / 10 < h) → f5 c = 0 := h_269
        have h_270 : SB P := h_270
        refine lv_iinc (v := nI (7 * t + 7)) (lv' := [(4, Value.int (nI (7 * t + 7))), (0, Value.ref b), (1, Value.ref h0), (2, Value.ref mo), (3, Value.ref qo)]) hx hb dL_law_711 hl (k := 4) rfl (nI_add (7 * t) 7) (by decide) rfl (fun ls hl => ?_)
        rw [show 7 * t + 7 = 7 * (t + 1) from rfl] at hl
        have hl : lv_has ls 7 [(4, Value.int (nI (7 * (t + 1)))), (0, Value.ref b), (1, Value.ref h0), (2, Value.ref mo), (3, Value.ref qo)] := hl
        refine lv_goto (tgt := 23) hx hb dL_law_714 (by decide) ?_
        refine W.widen (k := 67 + (t + 1)) (n := 3176 + 6 * (t + 1)) (by omega) (by omega) ?_
        exact ih ln tf lnm X_s_thrown_234 f_tape fk fp tx rl nx tk sa vl fv dsc dto ef1 ef2 ef3 ef4 sc to cf1 cf2 cf3 cf4 sn s_readStairs s_fault s_faultPlace s_end s_next s_kind s_which s_place s_read f_stair f_rules f_told f_rule P X_bc_233 ho fe w h f1 f2 f3 f4 f5 wm hm X_bcm_235 s_hours s_fees f_low f_high f_crack X_B1_226 X_B2_227 X_B3_228 X_B4_229 X_B5_230 X_B6_231 X_B7_232 X_f_weight_236 X_f_fire_237 X_f_crowd_238 X_f_state_239 X_wt_240 f_where wh f6 f_breaks lk wn on ab l1 l2 l3 l4 l5 s_looks f_row f_tried qd cr s1 s2 s3 s4 f_steps f_paths fo (t + 1) (by omega) (by omega) (by omega) (by omega) (by omega) h_246 (by omega) (by omega) (by omega) (by omega) h_251 h_252 h_253 h_254 h_255 h_256 h_257 h_258 h_259 h_260 h_261 h_262 h_263 h_264 h_265 h_266 h_267 h_268 h_269 h_270 (by omega) (by omega) (by omega) H locs (hP.sub [0, 1, 2, 3, 4, 5, 6, 7, 8, 9, 10, 11, 12, 13, 14, 15, 16, 17, 18, 19, 20, 21, 22, 23, 24, 25, 26, 27, 28, 29, 30, 31, 32, 33, 34, 35, 36, 37, 38, 39, 40, 41, 42, 43, 44, 45, 46, 47, 48, 49, 50, 51, 52, 53, 54, 55, 56, 57, 58, 59, 60, 61, 62, 63, 64, 65] rfl) (hD.sub [0, 1, 2, 3, 4, 5, 6, 7, 8, 9, 10, 11, 12, 13, 14, 15, 16, 17, 18, 19, 20, 21, 22, 23, 24, 25, 26, 27, 28, 29, 30, 31, 32, 33, 34, 35, 36, 37, 38, 39, 40, 41, 42, 43, 44, 45, 46, 47, 48, 49, 50, 51, 52, 53, 54, 55, 56, 57, 58, 59, 60, 61, 62, 63, 64, 65] (by decide) rfl) hS ls (lv_sub hl [1, 2, 3, 4, 0] rfl)
      by_cases w_6_6 : z_5 = 6
      · skip
        subst w_6_6
        refine lv_tableIn (tgt := 428) hx hb dL_law_40 (by decide) (by decide) rfl (by decide) ?_
        have hl : lv_has ls 7 [(0, Value.ref b), (1, Value.ref h0), (2, Value.ref mo), (3, Value.ref qo), (4, Value.int (nI (7 * t)))] := hl
        refine lw_case_428 F hA bo B1 B2 B3 B4 B5 B6 B7 h0 tp rd dr fa ly wy tp1 ln tc tf fk fp va tx rl nx tk sa vl vc fv dr1 dr2 dr3 dr4 dsc dto ec1 ef1 ec2 ef2 ec3 ef3 ec4 ef4 cu rv bt bc ho fe cu1 cu2 cu3 cu4 sc to cc1 cf1 cc2 cf2 cc3 cf3 cc4 cf4 w h q1 q2 q3 q4 q5 q6 cy1 f1 cy2 f2 cy3 f3 cy4 f4 cy5 f5 cy6 f6 bc9 lk ly1 wn ly2 ly3 ly4 on ly5 ab lc1 l1 lc2 l2 lc3 l3 lc4 l4 lc5 l5 wy1 wy2 qd wy3 wy4 cr wc1 s1 wc2 s2 wc3 s3 wc4 s4 mo m_tape lnm s_thrown m_rule m_rules sn m_stair s_readStairs s_fault s_faultPlace wm hm m_low m_high m_crack bcm m_weight m_fire m_crowd m_state m_where s_hours s_fees s_looks m_words s_end s_next s_kind s_which s_place s_read m_told m_breaks m_row m_tried m_steps m_paths y_tape f_tape y_rule f_rule y_rules f_rules y_stair f_stair y_low f_low y_high f_high y_crack f_crack y_weight f_weight y_fire f_fire y_crowd f_crowd y_state f_state y_where f_where y_words y_told f_told y_breaks f_breaks y_row f_row y_tried f_tried y_steps f_steps y_paths f_paths qo yo fo (7 * t) (67 + t) (3176 + 6 * t) us e1 e2 e3 e4 en kk b L xs wt wh P (hK.sub [0, 1, 2, 3, 4, 5, 6, 7, 8, 9, 10, 11, 12, 13, 14, 15, 16, 17, 18, 19, 20, 21, 22, 23, 24, 25, 26, 27, 28, 29, 30, 31, 32, 33, 34, 35, 36, 37, 38, 39, 40, 41, 42, 43, 44, 45] rfl) hXC hXE hXs hbl hbA hlt (fun X_B5_271 X_B6_272 X_B7_273 X_fe_274 X_f3_275 X_f4_276 X_s_thrown_277 X_s_fees_278 X_f_state_279 X_f_where_280 X_wh_281 h_282 h_283 h_284 h_285 h_286 h_287 h_288 h_289 h_290 h_291 h_292 h_293 h_294 h_295 h_296 h_297 h_298 h_299 h_300 h_301 h_302 h_303 h_304 h_305 h_306 h_307 h_308 h_309 h_310 h_311 H locs hP hD hS ls hl => ?_) _  (by omega) (by omega) (by omega) (by omega) (by omega) hst (by omega) (by omega) (by omega) (by omega) i_tf i_fk i_fp i_lo i_hi i_ck i_we i_fi i_cr i_st i_ho i_fe i_CI i_wr i_Kc i_Km i_PB i_lb i_ou i_SB (by omega) (by omega) (by omega) (by omega) (Nat.lt_succ_self _) _ _ (hP.sub [0, 1, 2, 3, 4, 5, 6, 7, 8, 9, 10, 11, 12, 13, 14, 15, 16, 17, 18, 19, 20, 21, 22, 23, 24, 25, 26, 27, 28, 29, 30, 31, 32, 33, 34, 35, 36, 37, 38, 39, 40, 41, 42, 43, 44, 45, 46, 47, 48, 49, 50, 51, 52, 53, 54, 55, 56, 57, 58, 59, 60, 61, 62, 63, 64, 65] rfl) (hD.sub [0, 1, 2, 3, 4, 5, 6, 7, 8, 9, 10, 11, 12, 13, 14, 15, 16, 17, 18, 19, 20, 21, 22, 23, 24, 25, 26, 27, 28, 29, 30, 31, 32, 33, 34, 35, 36, 37, 38, 39, 40, 41, 42, 43, 44, 45, 46, 47, 48, 49, 50, 51, 52, 53, 54, 55, 56, 57, 58, 59, 60, 61, 62, 63, 64, 65] (by decide) rfl) hS ls (lv_sub hl [0, 1, 2, 3, 4] rfl)
        have h_282 : ln ≤ 400 := h_282
        have h_283 : bc ≤ 10 := h_283
        have h_284 : w ≤ 10 := h_284
        have h_285 : h ≤ 10 := h_285
        have h_286 : sn ≤ 4 := h_286
        have h_287 : rOK 100 f_stair 24 := h_287
        have h_288 : lnm = ln := h_288
        have h_289 : bcm = bc := h_289
        have h_290 : wm = w := h_290
        have h_291 : hm = h := h_291
        have h_292 : f_tape = tf := h_292
        have h_293 : s_fault = fk := h_293
        have h_294 : s_faultPlace = fp := h_294
        have h_295 : f_low = f1 := h_295
        have h_296 : f_high = f2 := h_296
        have h_297 : f_crack = f5 := h_297
        have h_298 : f_weight = B2 := h_298
        have h_299 : f_fire = B3 := h_299
        have h_300 : f_crowd = B4 := h_300
        have h_301 : X_f_state_279 = X_B5_271 := h_301
        have h_302 : s_hours = ho := h_302
        have h_303 : X_s_fees_278 = X_fe_274 := h_303
        have h_304 : CI bc w h B1 B2 X_B5_271 X_B6_272 X_B7_273 X_f3_275 X_f4_276 wt X_wh_281 := h_304
        have h_305 : ∀ b, b < bc → X_B5_271 b = 1 → X_f_where_280 b = nI (X_wh_281 b) := h_305
        have h_306 : Kc P cf1 cf2 cf3 cf4 sc := h_306
        have h_307 : Km P sn f_rule f_stair := h_307
        have h_308 : PB P := h_308
        have h_309 : ∀ c, c < 100 → 0 ≤ (f1 c).toInt ∧ (f1 c).toInt ≤ 99 := h_309
        have h_310 : ∀ c, ¬ (c % 10 < w ∧ c / 10 < h) → f5 c = 0 := h_310
        have h_311 : SB P := h_311
        refine lv_iinc (v := nI (7 * t + 7)) (lv' := [(4, Value.int (nI (7 * t + 7))), (0, Value.ref b), (1, Value.ref h0), (2, Value.ref mo), (3, Value.ref qo)]) hx hb dL_law_711 hl (k := 4) rfl (nI_add (7 * t) 7) (by decide) rfl (fun ls hl => ?_)
        rw [show 7 * t + 7 = 7 * (t + 1) from rfl] at hl
        have hl : lv_has ls 7 [(4, Value.int (nI (7 * (t + 1)))), (0, Value.ref b), (1, Value.ref h0), (2, Value.ref mo), (3, Value.ref qo)] := hl
        refine lv_goto (tgt := 23) hx hb dL_law_714 (by decide) ?_
        refine W.widen (k := 67 + (t + 1)) (n := 3176 + 6 * (t + 1)) (by omega) (by omega) ?_
        exact ih ln tf lnm X_s_thrown_277 f_tape fk fp tx rl nx tk sa vl fv dsc dto ef1 ef2 ef3 ef4 sc to cf1 cf2 cf3 cf4 sn s_readStairs s_fault s_faultPlace s_end s_next s_kind s_which s_place s_read f_stair f_rules f_told f_rule P bc ho X_fe_274 w h f1 f2 X_f3_275 X_f4_276 f5 wm hm bcm s_hours X_s_fees_278 f_low f_high f_crack B1 B2 B3 B4 X_B5_271 X_B6_272 X_B7_273 f_weight f_fire f_crowd X_f_state_279 wt X_f_where_280 X_wh_281 f6 f_breaks lk wn on ab l1 l2 l3 l4 l5 s_looks f_row f_tried qd cr s1 s2 s3 s4 f_steps f_paths fo (t + 1) (by omega) (by omega) (by omega) (by omega) (by omega) h_287 (by omega) (by omega) (by omega) (by omega) h_292 h_293 h_294 h_295 h_296 h_297 h_298 h_299 h_300 h_301 h_302 h_303 h_304 h_305 h_306 h_307 h_308 h_309 h_310 h_311 (by omega) (by omega) (by omega) H locs (hP.sub [0, 1, 2, 3, 4, 5, 6, 7, 8, 9, 10, 11, 12, 13, 14, 15, 16, 17, 18, 19, 20, 21, 22, 23, 24, 25, 26, 27, 28, 29, 30, 31, 32, 33, 34, 35, 36, 37, 38, 39, 40, 41, 42, 43, 44, 45, 46, 47, 48, 49, 50, 51, 52, 53, 54, 55, 56, 57, 58, 59, 60, 61, 62, 63, 64, 65] rfl) (hD.sub [0, 1, 2, 3, 4, 5, 6, 7, 8, 9, 10, 11, 12, 13, 14, 15, 16, 17, 18, 19, 20, 21, 22, 23, 24, 25, 26, 27, 28, 29, 30, 31, 32, 33, 34, 35, 36, 37, 38, 39, 40, 41, 42, 43, 44, 45, 46, 47, 48, 49, 50, 51, 52, 53, 54, 55, 56, 57, 58, 59, 60, 61, 62, 63, 64, 65] (by decide) rfl) hS ls (lv_sub hl [1, 2, 3, 4, 0] rfl)
      by_cases w_6_7 : z_5 = 7
      · skip
        subst w_6_7
        refine lv_tableIn (tgt := 477) hx hb dL_law_40 (by decide) (by decide) rfl (by decide) ?_
        have hl : lv_has ls 7 [(0, Value.ref b), (1, Value.ref h0), (2, Value.ref mo), (3, Value.ref qo), (4, Value.int (nI (7 * t)))] := hl
        refine lw_case_477 F hA bo B1 B2 B3 B4 B5 B6 B7 h0 tp rd dr fa ly wy tp1 ln tc tf fk fp va tx rl nx tk sa vl vc fv dr1 dr2 dr3 dr4 dsc dto ec1 ef1 ec2 ef2 ec3 ef3 ec4 ef4 cu rv bt bc ho fe cu1 cu2 cu3 cu4 sc to cc1 cf1 cc2 cf2 cc3 cf3 cc4 cf4 w h q1 q2 q3 q4 q5 q6 cy1 f1 cy2 f2 cy3 f3 cy4 f4 cy5 f5 cy6 f6 bc9 lk ly1 wn ly2 ly3 ly4 on ly5 ab lc1 l1 lc2 l2 lc3 l3 lc4 l4 lc5 l5 wy1 wy2 qd wy3 wy4 cr wc1 s1 wc2 s2 wc3 s3 wc4 s4 mo m_tape lnm s_thrown m_rule m_rules sn m_stair s_readStairs s_fault s_faultPlace wm hm m_low m_high m_crack bcm m_weight m_fire m_crowd m_state m_where s_hours s_fees s_looks m_words s_end s_next s_kind s_which s_place s_read m_told m_breaks m_row m_tried m_steps m_paths y_tape f_tape y_rule f_rule y_rules f_rules y_stair f_stair y_low f_low y_high f_high y_crack f_crack y_weight f_weight y_fire f_fire y_crowd f_crowd y_state f_state y_where f_where y_words y_told f_told y_breaks f_breaks y_row f_row y_tried f_tried y_steps f_steps y_paths f_paths qo yo fo (7 * t) (67 + t) (3176 + 6 * t) us e1 e2 e3 e4 en kk b L xs wt wh P (hK.sub [0, 1, 2, 3, 4, 5, 6, 7, 8, 9, 10, 11, 12, 13, 14, 15, 16, 17, 18, 19, 20, 21, 22, 23, 24, 25, 26, 27, 28, 29, 30, 31, 32, 33, 34, 35, 36, 37, 38, 39, 40, 41, 42, 43, 44, 45] rfl) hXC hXE hXs hbl hbA hlt (fun X_B5_312 X_B6_313 X_B7_314 X_f3_315 X_f4_316 X_s_thrown_317 X_f_state_318 h_319 h_320 h_321 h_322 h_323 h_324 h_325 h_326 h_327 h_328 h_329 h_330 h_331 h_332 h_333 h_334 h_335 h_336 h_337 h_338 h_339 h_340 h_341 h_342 h_343 h_344 h_345 h_346 h_347 h_348 H locs hP hD hS ls hl => ?_) _  (by omega) (by omega) (by omega) (by omega) (by omega) hst (by omega) (by omega) (by omega) (by omega) i_tf i_fk i_fp i_lo i_hi i_ck i_we i_fi i_cr i_st i_ho i_fe i_CI i_wr i_Kc i_Km i_PB i_lb i_ou i_SB (by omega) (by omega) (by omega) (by omega) (Nat.lt_succ_self _) _ _ (hP.sub [0, 1, 2, 3, 4, 5, 6, 7, 8, 9, 10, 11, 12, 13, 14, 15, 16, 17, 18, 19, 20, 21, 22, 23, 24, 25, 26, 27, 28, 29, 30, 31, 32, 33, 34, 35, 36, 37, 38, 39, 40, 41, 42, 43, 44, 45, 46, 47, 48, 49, 50, 51, 52, 53, 54, 55, 56, 57, 58, 59, 60, 61, 62, 63, 64, 65] rfl) (hD.sub [0, 1, 2, 3, 4, 5, 6, 7, 8, 9, 10, 11, 12, 13, 14, 15, 16, 17, 18, 19, 20, 21, 22, 23, 24, 25, 26, 27, 28, 29, 30, 31, 32, 33, 34, 35, 36, 37, 38, 39, 40, 41, 42, 43, 44, 45, 46, 47, 48, 49, 50, 51, 52, 53, 54, 55, 56, 57, 58, 59, 60, 61, 62, 63, 64, 65] (by decide) rfl) hS ls (lv_sub hl [0, 1, 2, 3, 4] rfl)
        have h_319 : ln ≤ 400 := h_319
        have h_320 : bc ≤ 10 := h_320
        have h_321 : w ≤ 10 := h_321
        have h_322 : h ≤ 10 := h_322
        have h_323 : sn ≤ 4 := h_323
        have h_324 : rOK 100 f_stair 24 := h_324
        have h_325 : lnm = ln := h_325
        have h_326 : bcm = bc := h_326
        have h_327 : wm = w := h_327
        have h_328 : hm = h := h_328
        have h_329 : f_tape = tf := h_329
        have h_330 : s_fault = fk := h_330
        have h_331 : s_faultPlace = fp := h_331
        have h_332 : f_low = f1 := h_332
        have h_333 : f_high = f2 := h_333
        have h_334 : f_crack = f5 := h_334
        have h_335 : f_weight = B2 := h_335
        have h_336 : f_fire = B3 := h_336
        have h_337 : f_crowd = B4 := h_337
        have h_338 : X_f_state_318 = X_B5_312 := h_338
        have h_339 : s_hours = ho := h_339
        have h_340 : s_fees = fe := h_340
        have h_341 : CI bc w h B1 B2 X_B5_312 X_B6_313 X_B7_314 X_f3_315 X_f4_316 wt wh := h_341
        have h_342 : ∀ b, b < bc → X_B5_312 b = 1 → f_where b = nI (wh b) := h_342
        have h_343 : Kc P cf1 cf2 cf3 cf4 sc := h_343
        have h_344 : Km P sn f_rule f_stair := h_344
        have h_345 : PB P := h_345
        have h_346 : ∀ c, c < 100 → 0 ≤ (f1 c).toInt ∧ (f1 c).toInt ≤ 99 := h_346
        have h_347 : ∀ c, ¬ (c % 10 < w ∧ c / 10 < h) → f5 c = 0 := h_347
        have h_348 : SB P := h_348
        refine lv_iinc (v := nI (7 * t + 7)) (lv' := [(4, Value.int (nI (7 * t + 7))), (0, Value.ref b), (1, Value.ref h0), (2, Value.ref mo), (3, Value.ref qo)]) hx hb dL_law_711 hl (k := 4) rfl (nI_add (7 * t) 7) (by decide) rfl (fun ls hl => ?_)
        rw [show 7 * t + 7 = 7 * (t + 1) from rfl] at hl
        have hl : lv_has ls 7 [(4, Value.int (nI (7 * (t + 1)))), (0, Value.ref b), (1, Value.ref h0), (2, Value.ref mo), (3, Value.ref qo)] := hl
        refine lv_goto (tgt := 23) hx hb dL_law_714 (by decide) ?_
        refine W.widen (k := 67 + (t + 1)) (n := 3176 + 6 * (t + 1)) (by omega) (by omega) ?_
        exact ih ln tf lnm X_s_thrown_317 f_tape fk fp tx rl nx tk sa vl fv dsc dto ef1 ef2 ef3 ef4 sc to cf1 cf2 cf3 cf4 sn s_readStairs s_fault s_faultPlace s_end s_next s_kind s_which s_place s_read f_stair f_rules f_told f_rule P bc ho fe w h f1 f2 X_f3_315 X_f4_316 f5 wm hm bcm s_hours s_fees f_low f_high f_crack B1 B2 B3 B4 X_B5_312 X_B6_313 X_B7_314 f_weight f_fire f_crowd X_f_state_318 wt f_where wh f6 f_breaks lk wn on ab l1 l2 l3 l4 l5 s_looks f_row f_tried qd cr s1 s2 s3 s4 f_steps f_paths fo (t + 1) (by omega) (by omega) (by omega) (by omega) (by omega) h_324 (by omega) (by omega) (by omega) (by omega) h_329 h_330 h_331 h_332 h_333 h_334 h_335 h_336 h_337 h_338 h_339 h_340 h_341 h_342 h_343 h_344 h_345 h_346 h_347 h_348 (by omega) (by omega) (by omega) H locs (hP.sub [0, 1, 2, 3, 4, 5, 6, 7, 8, 9, 10, 11, 12, 13, 14, 15, 16, 17, 18, 19, 20, 21, 22, 23, 24, 25, 26, 27, 28, 29, 30, 31, 32, 33, 34, 35, 36, 37, 38, 39, 40, 41, 42, 43, 44, 45, 46, 47, 48, 49, 50, 51, 52, 53, 54, 55, 56, 57, 58, 59, 60, 61, 62, 63, 64, 65] rfl) (hD.sub [0, 1, 2, 3, 4, 5, 6, 7, 8, 9, 10, 11, 12, 13, 14, 15, 16, 17, 18, 19, 20, 21, 22, 23, 24, 25, 26, 27, 28, 29, 30, 31, 32, 33, 34, 35, 36, 37, 38, 39, 40, 41, 42, 43, 44, 45, 46, 47, 48, 49, 50, 51, 52, 53, 54, 55, 56, 57, 58, 59, 60, 61, 62, 63, 64, 65] (by decide) rfl) hS ls (lv_sub hl [1, 2, 3, 4, 0] rfl)
      by_cases w_6_8 : z_5 = 8
      · skip
        subst w_6_8
        refine lv_tableIn (tgt := 502) hx hb dL_law_40 (by decide) (by decide) rfl (by decide) ?_
        have hl : lv_has ls 7 [(0, Value.ref b), (1, Value.ref h0), (2, Value.ref mo), (3, Value.ref qo), (4, Value.int (nI (7 * t)))] := hl
        refine lw_case_502 F hA bo B1 B2 B3 B4 B5 B6 B7 h0 tp rd dr fa ly wy tp1 ln tc tf fk fp va tx rl nx tk sa vl vc fv dr1 dr2 dr3 dr4 dsc dto ec1 ef1 ec2 ef2 ec3 ef3 ec4 ef4 cu rv bt bc ho fe cu1 cu2 cu3 cu4 sc to cc1 cf1 cc2 cf2 cc3 cf3 cc4 cf4 w h q1 q2 q3 q4 q5 q6 cy1 f1 cy2 f2 cy3 f3 cy4 f4 cy5 f5 cy6 f6 bc9 lk ly1 wn ly2 ly3 ly4 on ly5 ab lc1 l1 lc2 l2 lc3 l3 lc4 l4 lc5 l5 wy1 wy2 qd wy3 wy4 cr wc1 s1 wc2 s2 wc3 s3 wc4 s4 mo m_tape lnm s_thrown m_rule m_rules sn m_stair s_readStairs s_fault s_faultPlace wm hm m_low m_high m_crack bcm m_weight m_fire m_crowd m_state m_where s_hours s_fees s_looks m_words s_end s_next s_kind s_which s_place s_read m_told m_breaks m_row m_tried m_steps m_paths y_tape f_tape y_rule f_rule y_rules f_rules y_stair f_stair y_low f_low y_high f_high y_crack f_crack y_weight f_weight y_fire f_fire y_crowd f_crowd y_state f_state y_where f_where y_words y_told f_told y_breaks f_breaks y_row f_row y_tried f_tried y_steps f_steps y_paths f_paths qo yo fo (7 * t) (67 + t) (3176 + 6 * t) us e1 e2 e3 e4 en kk b L xs wt wh P (hK.sub [0, 1, 2, 3, 4, 5, 6, 7, 8, 9, 10, 11, 12, 13, 14, 15, 16, 17, 18, 19, 20, 21, 22, 23, 24, 25, 26, 27, 28, 29, 30, 31, 32, 33, 34, 35, 36, 37, 38, 39, 40, 41, 42, 43, 44, 45] rfl) hXC hXE hXs hbl hbA hlt (fun X_B5_349 X_B6_350 X_B7_351 X_ho_352 X_f1_353 X_f2_354 X_f3_355 X_f4_356 X_f5_357 X_f6_358 X_s_thrown_359 X_s_hours_360 X_f_low_361 X_f_high_362 X_f_crack_363 X_f_breaks_364 X_f_state_365 h_366 h_367 h_368 h_369 h_370 h_371 h_372 h_373 h_374 h_375 h_376 h_377 h_378 h_379 h_380 h_381 h_382 h_383 h_384 h_385 h_386 h_387 h_388 h_389 h_390 h_391 h_392 h_393 h_394 h_395 H locs hP hD hS ls hl => ?_) _  (by omega) (by omega) (by omega) (by omega) (by omega) hst (by omega) (by omega) (by omega) (by omega) i_tf i_fk i_fp i_lo i_hi i_ck i_we i_fi i_cr i_st i_ho i_fe i_CI i_wr i_Kc i_Km i_PB i_lb i_ou i_SB (by omega) (by omega) (by omega) (by omega) (Nat.lt_succ_self _) _ _ (hP.sub [0, 1, 2, 3, 4, 5, 6, 7, 8, 9, 10, 11, 12, 13, 14, 15, 16, 17, 18, 19, 20, 21, 22, 23, 24, 25, 26, 27, 28, 29, 30, 31, 32, 33, 34, 35, 36, 37, 38, 39, 40, 41, 42, 43, 44, 45, 46, 47, 48, 49, 50, 51, 52, 53, 54, 55, 56, 57, 58, 59, 60, 61, 62, 63, 64, 65] rfl) (hD.sub [0, 1, 2, 3, 4, 5, 6, 7, 8, 9, 10, 11, 12, 13, 14, 15, 16, 17, 18, 19, 20, 21, 22, 23, 24, 25, 26, 27, 28, 29, 30, 31, 32, 33, 34, 35, 36, 37, 38, 39, 40, 41, 42, 43, 44, 45, 46, 47, 48, 49, 50, 51, 52, 53, 54, 55, 56, 57, 58, 59, 60, 61, 62, 63, 64, 65] (by decide) rfl) hS ls (lv_sub hl [0, 1, 2, 3, 4] rfl)
        have h_366 : ln ≤ 400 := h_366
        have h_367 : bc ≤ 10 := h_367
        have h_368 : w ≤ 10 := h_368
        have h_369 : h ≤ 10 := h_369
        have h_370 : sn ≤ 4 := h_370
        have h_371 : rOK 100 f_stair 24 := h_371
        have h_372 : lnm = ln := h_372
        have h_373 : bcm = bc := h_373
        have h_374 : wm = w := h_374
        have h_375 : hm = h := h_375
        have h_376 : f_tape = tf := h_376
        have h_377 : s_fault = fk := h_377
        have h_378 : s_faultPlace = fp := h_378
        have h_379 : X_f_low_361 = X_f1_353 := h_379
        have h_380 : X_f_high_362 = X_f2_354 := h_380
        have h_381 : X_f_crack_363 = X_f5_357 := h_381
        have h_382 : f_weight = B2 := h_382
        have h_383 : f_fire = B3 := h_383
        have h_384 : f_crowd = B4 := h_384
        have h_385 : X_f_state_365 = X_B5_349 := h_385
        have h_386 : X_s_hours_360 = X_ho_352 := h_386
        have h_387 : s_fees = fe := h_387
        have h_388 : CI bc w h B1 B2 X_B5_349 X_B6_350 X_B7_351 X_f3_355 X_f4_356 wt wh := h_388
        have h_389 : ∀ b, b < bc → X_B5_349 b = 1 → f_where b = nI (wh b) := h_389
        have h_390 : Kc P cf1 cf2 cf3 cf4 sc := h_390
        have h_391 : Km P sn f_rule f_stair := h_391
        have h_392 : PB P := h_392
        have h_393 : ∀ c, c < 100 → 0 ≤ (X_f1_353 c).toInt ∧ (X_f1_353 c).toInt ≤ 99 := h_393
        have h_394 : ∀ c, ¬ (c % 10 < w ∧ c / 10 < h) → X_f5_357 c = 0 := h_394
        have h_395 : SB P := h_395
        refine lv_iinc (v := nI (7 * t + 7)) (lv' := [(4, Value.int (nI (7 * t + 7))), (0, Value.ref b), (1, Value.ref h0), (2, Value.ref mo), (3, Value.ref qo)]) hx hb dL_law_711 hl (k := 4) rfl (nI_add (7 * t) 7) (by decide) rfl (fun ls hl => ?_)
        rw [show 7 * t + 7 = 7 * (t + 1) from rfl] at hl
        have hl : lv_has ls 7 [(4, Value.int (nI (7 * (t + 1)))), (0, Value.ref b), (1, Value.ref h0), (2, Value.ref mo), (3, Value.ref qo)] := hl
        refine lv_goto (tgt := 23) hx hb dL_law_714 (by decide) ?_
        refine W.widen (k := 67 + (t + 1)) (n := 3176 + 6 * (t + 1)) (by omega) (by omega) ?_
        exact ih ln tf lnm X_s_thrown_359 f_tape fk fp tx rl nx tk sa vl fv dsc dto ef1 ef2 ef3 ef4 sc to cf1 cf2 cf3 cf4 sn s_readStairs s_fault s_faultPlace s_end s_next s_kind s_which s_place s_read f_stair f_rules f_told f_rule P bc X_ho_352 fe w h X_f1_353 X_f2_354 X_f3_355 X_f4_356 X_f5_357 wm hm bcm X_s_hours_360 s_fees X_f_low_361 X_f_high_362 X_f_crack_363 B1 B2 B3 B4 X_B5_349 X_B6_350 X_B7_351 f_weight f_fire f_crowd X_f_state_365 wt f_where wh X_f6_358 X_f_breaks_364 lk wn on ab l1 l2 l3 l4 l5 s_looks f_row f_tried qd cr s1 s2 s3 s4 f_steps f_paths fo (t + 1) (by omega) (by omega) (by omega) (by omega) (by omega) h_371 (by omega) (by omega) (by omega) (by omega) h_376 h_377 h_378 h_379 h_380 h_381 h_382 h_383 h_384 h_385 h_386 h_387 h_388 h_389 h_390 h_391 h_392 h_393 h_394 h_395 (by omega) (by omega) (by omega) H locs (hP.sub [0, 1, 2, 3, 4, 5, 6, 7, 8, 9, 10, 11, 12, 13, 14, 15, 16, 17, 18, 19, 20, 21, 22, 23, 24, 25, 26, 27, 28, 29, 30, 31, 32, 33, 34, 35, 36, 37, 38, 39, 40, 41, 42, 43, 44, 45, 46, 47, 48, 49, 50, 51, 52, 53, 54, 55, 56, 57, 58, 59, 60, 61, 62, 63, 64, 65] rfl) (hD.sub [0, 1, 2, 3, 4, 5, 6, 7, 8, 9, 10, 11, 12, 13, 14, 15, 16, 17, 18, 19, 20, 21, 22, 23, 24, 25, 26, 27, 28, 29, 30, 31, 32, 33, 34, 35, 36, 37, 38, 39, 40, 41, 42, 43, 44, 45, 46, 47, 48, 49, 50, 51, 52, 53, 54, 55, 56, 57, 58, 59, 60, 61, 62, 63, 64, 65] (by decide) rfl) hS ls (lv_sub hl [1, 2, 3, 4, 0] rfl)
      by_cases w_6_9 : z_5 = 9
      · skip
        subst w_6_9
        refine lv_tableIn (tgt := 527) hx hb dL_law_40 (by decide) (by decide) rfl (by decide) ?_
        have hl : lv_has ls 7 [(0, Value.ref b), (1, Value.ref h0), (2, Value.ref mo), (3, Value.ref qo), (4, Value.int (nI (7 * t)))] := hl
        refine lw_case_527 F hA bo B1 B2 B3 B4 B5 B6 B7 h0 tp rd dr fa ly wy tp1 ln tc tf fk fp va tx rl nx tk sa vl vc fv dr1 dr2 dr3 dr4 dsc dto ec1 ef1 ec2 ef2 ec3 ef3 ec4 ef4 cu rv bt bc ho fe cu1 cu2 cu3 cu4 sc to cc1 cf1 cc2 cf2 cc3 cf3 cc4 cf4 w h q1 q2 q3 q4 q5 q6 cy1 f1 cy2 f2 cy3 f3 cy4 f4 cy5 f5 cy6 f6 bc9 lk ly1 wn ly2 ly3 ly4 on ly5 ab lc1 l1 lc2 l2 lc3 l3 lc4 l4 lc5 l5 wy1 wy2 qd wy3 wy4 cr wc1 s1 wc2 s2 wc3 s3 wc4 s4 mo m_tape lnm s_thrown m_rule m_rules sn m_stair s_readStairs s_fault s_faultPlace wm hm m_low m_high m_crack bcm m_weight m_fire m_crowd m_state m_where s_hours s_fees s_looks m_words s_end s_next s_kind s_which s_place s_read m_told m_breaks m_row m_tried m_steps m_paths y_tape f_tape y_rule f_rule y_rules f_rules y_stair f_stair y_low f_low y_high f_high y_crack f_crack y_weight f_weight y_fire f_fire y_crowd f_crowd y_state f_state y_where f_where y_words y_told f_told y_breaks f_breaks y_row f_row y_tried f_tried y_steps f_steps y_paths f_paths qo yo fo (7 * t) (67 + t) (3176 + 6 * t) us e1 e2 e3 e4 en kk b L xs wt wh P (hK.sub [0, 1, 2, 3, 4, 5, 6, 7, 8, 9, 10, 11, 12, 13, 14, 15, 16, 17, 18, 19, 20, 21, 22, 23, 24, 25, 26, 27, 28, 29, 30, 31, 32, 33, 34, 35, 36, 37, 38, 39, 40, 41, 42, 43, 44, 45] rfl) hXC hXE hXs hbl hbA hlt (fun X_B5_396 X_B6_397 X_B7_398 X_fe_399 X_f3_400 X_f4_401 X_lk_402 X_wn_403 X_on_404 X_ab_405 X_l1_406 X_l2_407 X_l3_408 X_l4_409 X_l5_410 X_s_thrown_411 X_s_fees_412 X_s_looks_413 X_f_row_414 X_f_tried_415 X_f_state_416 X_f_where_417 X_wh_418 h_419 h_420 h_421 h_422 h_423 h_424 h_425 h_426 h_427 h_428 h_429 h_430 h_431 h_432 h_433 h_434 h_435 h_436 h_437 h_438 h_439 h_440 h_441 h_442 h_443 h_444 h_445 h_446 h_447 h_448 H locs hP hD hS ls hl => ?_) _  (by omega) (by omega) (by omega) (by omega) (by omega) hst (by omega) (by omega) (by omega) (by omega) i_tf i_fk i_fp i_lo i_hi i_ck i_we i_fi i_cr i_st i_ho i_fe i_CI i_wr i_Kc i_Km i_PB i_lb i_ou i_SB (by omega) (by omega) (by omega) (by omega) (Nat.lt_succ_self _) _ _ (hP.sub [0, 1, 2, 3, 4, 5, 6, 7, 8, 9, 10, 11, 12, 13, 14, 15, 16, 17, 18, 19, 20, 21, 22, 23, 24, 25, 26, 27, 28, 29, 30, 31, 32, 33, 34, 35, 36, 37, 38, 39, 40, 41, 42, 43, 44, 45, 46, 47, 48, 49, 50, 51, 52, 53, 54, 55, 56, 57, 58, 59, 60, 61, 62, 63, 64, 65] rfl) (hD.sub [0, 1, 2, 3, 4, 5, 6, 7, 8, 9, 10, 11, 12, 13, 14, 15, 16, 17, 18, 19, 20, 21, 22, 23, 24, 25, 26, 27, 28, 29, 30, 31, 32, 33, 34, 35, 36, 37, 38, 39, 40, 41, 42, 43, 44, 45, 46, 47, 48, 49, 50, 51, 52, 53, 54, 55, 56, 57, 58, 59, 60, 61, 62, 63, 64, 65] (by decide) rfl) hS ls (lv_sub hl [0, 1, 2, 3, 4] rfl)
        have h_419 : ln ≤ 400 := h_419
        have h_420 : bc ≤ 10 := h_420
        have h_421 : w ≤ 10 := h_421
        have h_422 : h ≤ 10 := h_422
        have h_423 : sn ≤ 4 := h_423
        have h_424 : rOK 100 f_stair 24 := h_424
        have h_425 : lnm = ln := h_425
        have h_426 : bcm = bc := h_426
        have h_427 : wm = w := h_427
        have h_428 : hm = h := h_428
        have h_429 : f_tape = tf := h_429
        have h_430 : s_fault = fk := h_430
        have h_431 : s_faultPlace = fp := h_431
        have h_432 : f_low = f1 := h_432
        have h_433 : f_high = f2 := h_433
        have h_434 : f_crack = f5 := h_434
        have h_435 : f_weight = B2 := h_435
        have h_436 : f_fire = B3 := h_436
        have h_437 : f_crowd = B4 := h_437
        have h_438 : X_f_state_416 = X_B5_396 := h_438
        have h_439 : s_hours = ho := h_439
        have h_440 : X_s_fees_412 = X_fe_399 := h_440
        have h_441 : CI bc w h B1 B2 X_B5_396 X_B6_397 X_B7_398 X_f3_400 X_f4_401 wt X_wh_418 := h_441
        have h_442 : ∀ b, b < bc → X_B5_396 b = 1 → X_f_where_417 b = nI (X_wh_418 b) := h_442
        have h_443 : Kc P cf1 cf2 cf3 cf4 sc := h_443
        have h_444 : Km P sn f_rule f_stair := h_444
        have h_445 : PB P := h_445
        have h_446 : ∀ c, c < 100 → 0 ≤ (f1 c).toInt ∧ (f1 c).toInt ≤ 99 := h_446
        have h_447 : ∀ c, ¬ (c % 10 < w ∧ c / 10 < h) → f5 c = 0 := h_447
        have h_448 : SB P := h_448
        refine lv_iinc (v := nI (7 * t + 7)) (lv' := [(4, Value.int (nI (7 * t + 7))), (0, Value.ref b), (1, Value.ref h0), (2, Value.ref mo), (3, Value.ref qo)]) hx hb dL_law_711 hl (k := 4) rfl (nI_add (7 * t) 7) (by decide) rfl (fun ls hl => ?_)
        rw [show 7 * t + 7 = 7 * (t + 1) from rfl] at hl
        have hl : lv_has ls 7 [(4, Value.int (nI (7 * (t + 1)))), (0, Value.ref b), (1, Value.ref h0), (2, Value.ref mo), (3, Value.ref qo)] := hl
        refine lv_goto (tgt := 23) hx hb dL_law_714 (by decide) ?_
        refine W.widen (k := 67 + (t + 1)) (n := 3176 + 6 * (t + 1)) (by omega) (by omega) ?_
        exact ih ln tf lnm X_s_thrown_411 f_tape fk fp tx rl nx tk sa vl fv dsc dto ef1 ef2 ef3 ef4 sc to cf1 cf2 cf3 cf4 sn s_readStairs s_fault s_faultPlace s_end s_next s_kind s_which s_place s_read f_stair f_rules f_told f_rule P bc ho X_fe_399 w h f1 f2 X_f3_400 X_f4_401 f5 wm hm bcm s_hours X_s_fees_412 f_low f_high f_crack B1 B2 B3 B4 X_B5_396 X_B6_397 X_B7_398 f_weight f_fire f_crowd X_f_state_416 wt X_f_where_417 X_wh_418 f6 f_breaks X_lk_402 X_wn_403 X_on_404 X_ab_405 X_l1_406 X_l2_407 X_l3_408 X_l4_409 X_l5_410 X_s_looks_413 X_f_row_414 X_f_tried_415 qd cr s1 s2 s3 s4 f_steps f_paths fo (t + 1) (by omega) (by omega) (by omega) (by omega) (by omega) h_424 (by omega) (by omega) (by omega) (by omega) h_429 h_430 h_431 h_432 h_433 h_434 h_435 h_436 h_437 h_438 h_439 h_440 h_441 h_442 h_443 h_444 h_445 h_446 h_447 h_448 (by omega) (by omega) (by omega) H locs (hP.sub [0, 1, 2, 3, 4, 5, 6, 7, 8, 9, 10, 11, 12, 13, 14, 15, 16, 17, 18, 19, 20, 21, 22, 23, 24, 25, 26, 27, 28, 29, 30, 31, 32, 33, 34, 35, 36, 37, 38, 39, 40, 41, 42, 43, 44, 45, 46, 47, 48, 49, 50, 51, 52, 53, 54, 55, 56, 57, 58, 59, 60, 61, 62, 63, 64, 65] rfl) (hD.sub [0, 1, 2, 3, 4, 5, 6, 7, 8, 9, 10, 11, 12, 13, 14, 15, 16, 17, 18, 19, 20, 21, 22, 23, 24, 25, 26, 27, 28, 29, 30, 31, 32, 33, 34, 35, 36, 37, 38, 39, 40, 41, 42, 43, 44, 45, 46, 47, 48, 49, 50, 51, 52, 53, 54, 55, 56, 57, 58, 59, 60, 61, 62, 63, 64, 65] (by decide) rfl) hS ls (lv_sub hl [1, 2, 3, 4, 0] rfl)
      by_cases w_6_10 : z_5 = 10
      · skip
        subst w_6_10
        refine lv_tableIn (tgt := 540) hx hb dL_law_40 (by decide) (by decide) rfl (by decide) ?_
        have hl : lv_has ls 7 [(0, Value.ref b), (1, Value.ref h0), (2, Value.ref mo), (3, Value.ref qo), (4, Value.int (nI (7 * t)))] := hl
        refine lw_case_540 F hA bo B1 B2 B3 B4 B5 B6 B7 h0 tp rd dr fa ly wy tp1 ln tc tf fk fp va tx rl nx tk sa vl vc fv dr1 dr2 dr3 dr4 dsc dto ec1 ef1 ec2 ef2 ec3 ef3 ec4 ef4 cu rv bt bc ho fe cu1 cu2 cu3 cu4 sc to cc1 cf1 cc2 cf2 cc3 cf3 cc4 cf4 w h q1 q2 q3 q4 q5 q6 cy1 f1 cy2 f2 cy3 f3 cy4 f4 cy5 f5 cy6 f6 bc9 lk ly1 wn ly2 ly3 ly4 on ly5 ab lc1 l1 lc2 l2 lc3 l3 lc4 l4 lc5 l5 wy1 wy2 qd wy3 wy4 cr wc1 s1 wc2 s2 wc3 s3 wc4 s4 mo m_tape lnm s_thrown m_rule m_rules sn m_stair s_readStairs s_fault s_faultPlace wm hm m_low m_high m_crack bcm m_weight m_fire m_crowd m_state m_where s_hours s_fees s_looks m_words s_end s_next s_kind s_which s_place s_read m_told m_breaks m_row m_tried m_steps m_paths y_tape f_tape y_rule f_rule y_rules f_rules y_stair f_stair y_low f_low y_high f_high y_crack f_crack y_weight f_weight y_fire f_fire y_crowd f_crowd y_state f_state y_where f_where y_words y_told f_told y_breaks f_breaks y_row f_row y_tried f_tried y_steps f_steps y_paths f_paths qo yo fo (7 * t) (67 + t) (3176 + 6 * t) us e1 e2 e3 e4 en kk b L xs wt wh P (hK.sub [0, 1, 2, 3, 4, 5, 6, 7, 8, 9, 10, 11, 12, 13, 14, 15, 16, 17, 18, 19, 20, 21, 22, 23, 24, 25, 26, 27, 28, 29, 30, 31, 32, 33, 34, 35, 36, 37, 38, 39, 40, 41, 42, 43, 44, 45] rfl) hXC hXE hXs hbl hbA hlt (fun X_qd_449 X_cr_450 X_s1_451 X_s2_452 X_s3_453 X_s4_454 X_s_thrown_455 X_f_steps_456 X_f_paths_457 h_458 h_459 h_460 h_461 h_462 h_463 h_464 h_465 h_466 h_467 h_468 h_469 h_470 h_471 h_472 h_473 h_474 h_475 h_476 h_477 h_478 h_479 h_480 h_481 h_482 h_483 h_484 h_485 h_486 h_487 H locs hP hD hS ls hl => ?_) _  (by omega) (by omega) (by omega) (by omega) (by omega) hst (by omega) (by omega) (by omega) (by omega) i_tf i_fk i_fp i_lo i_hi i_ck i_we i_fi i_cr i_st i_ho i_fe i_CI i_wr i_Kc i_Km i_PB i_lb i_ou i_SB (by omega) (by omega) (by omega) (by omega) (Nat.lt_succ_self _) _ _ (hP.sub [0, 1, 2, 3, 4, 5, 6, 7, 8, 9, 10, 11, 12, 13, 14, 15, 16, 17, 18, 19, 20, 21, 22, 23, 24, 25, 26, 27, 28, 29, 30, 31, 32, 33, 34, 35, 36, 37, 38, 39, 40, 41, 42, 43, 44, 45, 46, 47, 48, 49, 50, 51, 52, 53, 54, 55, 56, 57, 58, 59, 60, 61, 62, 63, 64, 65] rfl) (hD.sub [0, 1, 2, 3, 4, 5, 6, 7, 8, 9, 10, 11, 12, 13, 14, 15, 16, 17, 18, 19, 20, 21, 22, 23, 24, 25, 26, 27, 28, 29, 30, 31, 32, 33, 34, 35, 36, 37, 38, 39, 40, 41, 42, 43, 44, 45, 46, 47, 48, 49, 50, 51, 52, 53, 54, 55, 56, 57, 58, 59, 60, 61, 62, 63, 64, 65] (by decide) rfl) hS ls (lv_sub hl [0, 1, 2, 3, 4] rfl)
        have h_458 : ln ≤ 400 := h_458
        have h_459 : bc ≤ 10 := h_459
        have h_460 : w ≤ 10 := h_460
        have h_461 : h ≤ 10 := h_461
        have h_462 : sn ≤ 4 := h_462
        have h_463 : rOK 100 f_stair 24 := h_463
        have h_464 : lnm = ln := h_464
        have h_465 : bcm = bc := h_465
        have h_466 : wm = w := h_466
        have h_467 : hm = h := h_467
        have h_468 : f_tape = tf := h_468
        have h_469 : s_fault = fk := h_469
        have h_470 : s_faultPlace = fp := h_470
        have h_471 : f_low = f1 := h_471
        have h_472 : f_high = f2 := h_472
        have h_473 : f_crack = f5 := h_473
        have h_474 : f_weight = B2 := h_474
        have h_475 : f_fire = B3 := h_475
        have h_476 : f_crowd = B4 := h_476
        have h_477 : f_state = B5 := h_477
        have h_478 : s_hours = ho := h_478
        have h_479 : s_fees = fe := h_479
        have h_480 : CI bc w h B1 B2 B5 B6 B7 f3 f4 wt wh := h_480
        have h_481 : ∀ b, b < bc → B5 b = 1 → f_where b = nI (wh b) := h_481
        have h_482 : Kc P cf1 cf2 cf3 cf4 sc := h_482
        have h_483 : Km P sn f_rule f_stair := h_483
        have h_484 : PB P := h_484
        have h_485 : ∀ c, c < 100 → 0 ≤ (f1 c).toInt ∧ (f1 c).toInt ≤ 99 := h_485
        have h_486 : ∀ c, ¬ (c % 10 < w ∧ c / 10 < h) → f5 c = 0 := h_486
        have h_487 : SB P := h_487
        refine lv_iinc (v := nI (7 * t + 7)) (lv' := [(4, Value.int (nI (7 * t + 7))), (0, Value.ref b), (1, Value.ref h0), (2, Value.ref mo), (3, Value.ref qo)]) hx hb dL_law_711 hl (k := 4) rfl (nI_add (7 * t) 7) (by decide) rfl (fun ls hl => ?_)
        rw [show 7 * t + 7 = 7 * (t + 1) from rfl] at hl
        have hl : lv_has ls 7 [(4, Value.int (nI (7 * (t + 1)))), (0, Value.ref b), (1, Value.ref h0), (2, Value.ref mo), (3, Value.ref qo)] := hl
        refine lv_goto (tgt := 23) hx hb dL_law_714 (by decide) ?_
        refine W.widen (k := 67 + (t + 1)) (n := 3176 + 6 * (t + 1)) (by omega) (by omega) ?_
        exact ih ln tf lnm X_s_thrown_455 f_tape fk fp tx rl nx tk sa vl fv dsc dto ef1 ef2 ef3 ef4 sc to cf1 cf2 cf3 cf4 sn s_readStairs s_fault s_faultPlace s_end s_next s_kind s_which s_place s_read f_stair f_rules f_told f_rule P bc ho fe w h f1 f2 f3 f4 f5 wm hm bcm s_hours s_fees f_low f_high f_crack B1 B2 B3 B4 B5 B6 B7 f_weight f_fire f_crowd f_state wt f_where wh f6 f_breaks lk wn on ab l1 l2 l3 l4 l5 s_looks f_row f_tried X_qd_449 X_cr_450 X_s1_451 X_s2_452 X_s3_453 X_s4_454 X_f_steps_456 X_f_paths_457 fo (t + 1) (by omega) (by omega) (by omega) (by omega) (by omega) h_463 (by omega) (by omega) (by omega) (by omega) h_468 h_469 h_470 h_471 h_472 h_473 h_474 h_475 h_476 h_477 h_478 h_479 h_480 h_481 h_482 h_483 h_484 h_485 h_486 h_487 (by omega) (by omega) (by omega) H locs (hP.sub [0, 1, 2, 3, 4, 5, 6, 7, 8, 9, 10, 11, 12, 13, 14, 15, 16, 17, 18, 19, 20, 21, 22, 23, 24, 25, 26, 27, 28, 29, 30, 31, 32, 33, 34, 35, 36, 37, 38, 39, 40, 41, 42, 43, 44, 45, 46, 47, 48, 49, 50, 51, 52, 53, 54, 55, 56, 57, 58, 59, 60, 61, 62, 63, 64, 65] rfl) (hD.sub [0, 1, 2, 3, 4, 5, 6, 7, 8, 9, 10, 11, 12, 13, 14, 15, 16, 17, 18, 19, 20, 21, 22, 23, 24, 25, 26, 27, 28, 29, 30, 31, 32, 33, 34, 35, 36, 37, 38, 39, 40, 41, 42, 43, 44, 45, 46, 47, 48, 49, 50, 51, 52, 53, 54, 55, 56, 57, 58, 59, 60, 61, 62, 63, 64, 65] (by decide) rfl) hS ls (lv_sub hl [1, 2, 3, 4, 0] rfl)
      by_cases w_6_11 : z_5 = 11
      · skip
        subst w_6_11
        refine lv_tableIn (tgt := 553) hx hb dL_law_40 (by decide) (by decide) rfl (by decide) ?_
        have hl : lv_has ls 7 [(0, Value.ref b), (1, Value.ref h0), (2, Value.ref mo), (3, Value.ref qo), (4, Value.int (nI (7 * t)))] := hl
        refine lw_case_553 F hA bo B1 B2 B3 B4 B5 B6 B7 h0 tp rd dr fa ly wy tp1 ln tc tf fk fp va tx rl nx tk sa vl vc fv dr1 dr2 dr3 dr4 dsc dto ec1 ef1 ec2 ef2 ec3 ef3 ec4 ef4 cu rv bt bc ho fe cu1 cu2 cu3 cu4 sc to cc1 cf1 cc2 cf2 cc3 cf3 cc4 cf4 w h q1 q2 q3 q4 q5 q6 cy1 f1 cy2 f2 cy3 f3 cy4 f4 cy5 f5 cy6 f6 bc9 lk ly1 wn ly2 ly3 ly4 on ly5 ab lc1 l1 lc2 l2 lc3 l3 lc4 l4 lc5 l5 wy1 wy2 qd wy3 wy4 cr wc1 s1 wc2 s2 wc3 s3 wc4 s4 mo m_tape lnm s_thrown m_rule m_rules sn m_stair s_readStairs s_fault s_faultPlace wm hm m_low m_high m_crack bcm m_weight m_fire m_crowd m_state m_where s_hours s_fees s_looks m_words s_end s_next s_kind s_which s_place s_read m_told m_breaks m_row m_tried m_steps m_paths y_tape f_tape y_rule f_rule y_rules f_rules y_stair f_stair y_low f_low y_high f_high y_crack f_crack y_weight f_weight y_fire f_fire y_crowd f_crowd y_state f_state y_where f_where y_words y_told f_told y_breaks f_breaks y_row f_row y_tried f_tried y_steps f_steps y_paths f_paths qo yo fo (7 * t) (67 + t) (3176 + 6 * t) us e1 e2 e3 e4 en kk b L xs wt wh P (hK.sub [0, 1, 2, 3, 4, 5, 6, 7, 8, 9, 10, 11, 12, 13, 14, 15, 16, 17, 18, 19, 20, 21, 22, 23, 24, 25, 26, 27, 28, 29, 30, 31, 32, 33, 34, 35, 36, 37, 38, 39, 40, 41, 42, 43, 44, 45] rfl) hXC hXE hXs hbl hbA hlt (fun X_qd_488 X_cr_489 X_s1_490 X_s2_491 X_s3_492 X_s4_493 X_s_thrown_494 X_f_steps_495 X_f_paths_496 h_497 h_498 h_499 h_500 h_501 h_502 h_503 h_504 h_505 h_506 h_507 h_508 h_509 h_510 h_511 h_512 h_513 h_514 h_515 h_516 h_517 h_518 h_519 h_520 h_521 h_522 h_523 h_524 h_525 h_526 H locs hP hD hS ls hl => ?_) _  (by omega) (by omega) (by omega) (by omega) (by omega) hst (by omega) (by omega) (by omega) (by omega) i_tf i_fk i_fp i_lo i_hi i_ck i_we i_fi i_cr i_st i_ho i_fe i_CI i_wr i_Kc i_Km i_PB i_lb i_ou i_SB (by omega) (by omega) (by omega) (by omega) (Nat.lt_succ_self _) _ _ (hP.sub [0, 1, 2, 3, 4, 5, 6, 7, 8, 9, 10, 11, 12, 13, 14, 15, 16, 17, 18, 19, 20, 21, 22, 23, 24, 25, 26, 27, 28, 29, 30, 31, 32, 33, 34, 35, 36, 37, 38, 39, 40, 41, 42, 43, 44, 45, 46, 47, 48, 49, 50, 51, 52, 53, 54, 55, 56, 57, 58, 59, 60, 61, 62, 63, 64, 65] rfl) (hD.sub [0, 1, 2, 3, 4, 5, 6, 7, 8, 9, 10, 11, 12, 13, 14, 15, 16, 17, 18, 19, 20, 21, 22, 23, 24, 25, 26, 27, 28, 29, 30, 31, 32, 33, 34, 35, 36, 37, 38, 39, 40, 41, 42, 43, 44, 45, 46, 47, 48, 49, 50, 51, 52, 53, 54, 55, 56, 57, 58, 59, 60, 61, 62, 63, 64, 65] (by decide) rfl) hS ls (lv_sub hl [0, 1, 2, 3, 4] rfl)
        have h_497 : ln ≤ 400 := h_497
        have h_498 : bc ≤ 10 := h_498
        have h_499 : w ≤ 10 := h_499
        have h_500 : h ≤ 10 := h_500
        have h_501 : sn ≤ 4 := h_501
        have h_502 : rOK 100 f_stair 24 := h_502
        have h_503 : lnm = ln := h_503
        have h_504 : bcm = bc := h_504
        have h_505 : wm = w := h_505
        have h_506 : hm = h := h_506
        have h_507 : f_tape = tf := h_507
        have h_508 : s_fault = fk := h_508
        have h_509 : s_faultPlace = fp := h_509
        have h_510 : f_low = f1 := h_510
        have h_511 : f_high = f2 := h_511
        have h_512 : f_crack = f5 := h_512
        have h_513 : f_weight = B2 := h_513
        have h_514 : f_fire = B3 := h_514
        have h_515 : f_crowd = B4 := h_515
        have h_516 : f_state = B5 := h_516
        have h_517 : s_hours = ho := h_517
        have h_518 : s_fees = fe := h_518
        have h_519 : CI bc w h B1 B2 B5 B6 B7 f3 f4 wt wh := h_519
        have h_520 : ∀ b, b < bc → B5 b = 1 → f_where b = nI (wh b) := h_520
        have h_521 : Kc P cf1 cf2 cf3 cf4 sc := h_521
        have h_522 : Km P sn f_rule f_stair := h_522
        have h_523 : PB P := h_523
        have h_524 : ∀ c, c < 100 → 0 ≤ (f1 c).toInt ∧ (f1 c).toInt ≤ 99 := h_524
        have h_525 : ∀ c, ¬ (c % 10 < w ∧ c / 10 < h) → f5 c = 0 := h_525
        have h_526 : SB P := h_526
        refine lv_iinc (v := nI (7 * t + 7)) (lv' := [(4, Value.int (nI (7 * t + 7))), (0, Value.ref b), (1, Value.ref h0), (2, Value.ref mo), (3, Value.ref qo)]) hx hb dL_law_711 hl (k := 4) rfl (nI_add (7 * t) 7) (by decide) rfl (fun ls hl => ?_)
        rw [show 7 * t + 7 = 7 * (t + 1) from rfl] at hl
        have hl : lv_has ls 7 [(4, Value.int (nI (7 * (t + 1)))), (0, Value.ref b), (1, Value.ref h0), (2, Value.ref mo), (3, Value.ref qo)] := hl
        refine lv_goto (tgt := 23) hx hb dL_law_714 (by decide) ?_
        refine W.widen (k := 67 + (t + 1)) (n := 3176 + 6 * (t + 1)) (by omega) (by omega) ?_
        exact ih ln tf lnm X_s_thrown_494 f_tape fk fp tx rl nx tk sa vl fv dsc dto ef1 ef2 ef3 ef4 sc to cf1 cf2 cf3 cf4 sn s_readStairs s_fault s_faultPlace s_end s_next s_kind s_which s_place s_read f_stair f_rules f_told f_rule P bc ho fe w h f1 f2 f3 f4 f5 wm hm bcm s_hours s_fees f_low f_high f_crack B1 B2 B3 B4 B5 B6 B7 f_weight f_fire f_crowd f_state wt f_where wh f6 f_breaks lk wn on ab l1 l2 l3 l4 l5 s_looks f_row f_tried X_qd_488 X_cr_489 X_s1_490 X_s2_491 X_s3_492 X_s4_493 X_f_steps_495 X_f_paths_496 fo (t + 1) (by omega) (by omega) (by omega) (by omega) (by omega) h_502 (by omega) (by omega) (by omega) (by omega) h_507 h_508 h_509 h_510 h_511 h_512 h_513 h_514 h_515 h_516 h_517 h_518 h_519 h_520 h_521 h_522 h_523 h_524 h_525 h_526 (by omega) (by omega) (by omega) H locs (hP.sub [0, 1, 2, 3, 4, 5, 6, 7, 8, 9, 10, 11, 12, 13, 14, 15, 16, 17, 18, 19, 20, 21, 22, 23, 24, 25, 26, 27, 28, 29, 30, 31, 32, 33, 34, 35, 36, 37, 38, 39, 40, 41, 42, 43, 44, 45, 46, 47, 48, 49, 50, 51, 52, 53, 54, 55, 56, 57, 58, 59, 60, 61, 62, 63, 64, 65] rfl) (hD.sub [0, 1, 2, 3, 4, 5, 6, 7, 8, 9, 10, 11, 12, 13, 14, 15, 16, 17, 18, 19, 20, 21, 22, 23, 24, 25, 26, 27, 28, 29, 30, 31, 32, 33, 34, 35, 36, 37, 38, 39, 40, 41, 42, 43, 44, 45, 46, 47, 48, 49, 50, 51, 52, 53, 54, 55, 56, 57, 58, 59, 60, 61, 62, 63, 64, 65] (by decide) rfl) hS ls (lv_sub hl [1, 2, 3, 4, 0] rfl)
      by_cases w_6_12 : z_5 = 12
      · skip
        subst w_6_12
        refine lv_tableIn (tgt := 566) hx hb dL_law_40 (by decide) (by decide) rfl (by decide) ?_
        have hl : lv_has ls 7 [(0, Value.ref b), (1, Value.ref h0), (2, Value.ref mo), (3, Value.ref qo), (4, Value.int (nI (7 * t)))] := hl
        refine lw_case_566 F hA bo B1 B2 B3 B4 B5 B6 B7 h0 tp rd dr fa ly wy tp1 ln tc tf fk fp va tx rl nx tk sa vl vc fv dr1 dr2 dr3 dr4 dsc dto ec1 ef1 ec2 ef2 ec3 ef3 ec4 ef4 cu rv bt bc ho fe cu1 cu2 cu3 cu4 sc to cc1 cf1 cc2 cf2 cc3 cf3 cc4 cf4 w h q1 q2 q3 q4 q5 q6 cy1 f1 cy2 f2 cy3 f3 cy4 f4 cy5 f5 cy6 f6 bc9 lk ly1 wn ly2 ly3 ly4 on ly5 ab lc1 l1 lc2 l2 lc3 l3 lc4 l4 lc5 l5 wy1 wy2 qd wy3 wy4 cr wc1 s1 wc2 s2 wc3 s3 wc4 s4 mo m_tape lnm s_thrown m_rule m_rules sn m_stair s_readStairs s_fault s_faultPlace wm hm m_low m_high m_crack bcm m_weight m_fire m_crowd m_state m_where s_hours s_fees s_looks m_words s_end s_next s_kind s_which s_place s_read m_told m_breaks m_row m_tried m_steps m_paths y_tape f_tape y_rule f_rule y_rules f_rules y_stair f_stair y_low f_low y_high f_high y_crack f_crack y_weight f_weight y_fire f_fire y_crowd f_crowd y_state f_state y_where f_where y_words y_told f_told y_breaks f_breaks y_row f_row y_tried f_tried y_steps f_steps y_paths f_paths qo yo fo (7 * t) (67 + t) (3176 + 6 * t) us e1 e2 e3 e4 en kk b L xs wt wh P (hK.sub [0, 1, 2, 3, 4, 5, 6, 7, 8, 9, 10, 11, 12, 13, 14, 15, 16, 17, 18, 19, 20, 21, 22, 23, 24, 25, 26, 27, 28, 29, 30, 31, 32, 33, 34, 35, 36, 37, 38, 39, 40, 41, 42, 43, 44, 45] rfl) hXC hXE hXs hbl hbA hlt (fun X_fo_527 X_s_thrown_528 h_529 h_530 h_531 h_532 h_533 h_534 h_535 h_536 h_537 h_538 h_539 h_540 h_541 h_542 h_543 h_544 h_545 h_546 h_547 h_548 h_549 h_550 h_551 h_552 h_553 h_554 h_555 h_556 h_557 h_558 H locs hP hD hS ls hl => ?_) _  (by omega) (by omega) (by omega) (by omega) (by omega) hst (by omega) (by omega) (by omega) (by omega) i_tf i_fk i_fp i_lo i_hi i_ck i_we i_fi i_cr i_st i_ho i_fe i_CI i_wr i_Kc i_Km i_PB i_lb i_ou i_SB (by omega) (by omega) (by omega) (by omega) (Nat.lt_succ_self _) _ _ (hP.sub [0, 1, 2, 3, 4, 5, 6, 7, 8, 9, 10, 11, 12, 13, 14, 15, 16, 17, 18, 19, 20, 21, 22, 23, 24, 25, 26, 27, 28, 29, 30, 31, 32, 33, 34, 35, 36, 37, 38, 39, 40, 41, 42, 43, 44, 45, 46, 47, 48, 49, 50, 51, 52, 53, 54, 55, 56, 57, 58, 59, 60, 61, 62, 63, 64, 65] rfl) (hD.sub [0, 1, 2, 3, 4, 5, 6, 7, 8, 9, 10, 11, 12, 13, 14, 15, 16, 17, 18, 19, 20, 21, 22, 23, 24, 25, 26, 27, 28, 29, 30, 31, 32, 33, 34, 35, 36, 37, 38, 39, 40, 41, 42, 43, 44, 45, 46, 47, 48, 49, 50, 51, 52, 53, 54, 55, 56, 57, 58, 59, 60, 61, 62, 63, 64, 65] (by decide) rfl) hS ls (lv_sub hl [0, 1, 2, 3, 4] rfl)
        have h_529 : ln ≤ 400 := h_529
        have h_530 : bc ≤ 10 := h_530
        have h_531 : w ≤ 10 := h_531
        have h_532 : h ≤ 10 := h_532
        have h_533 : sn ≤ 4 := h_533
        have h_534 : rOK 100 f_stair 24 := h_534
        have h_535 : lnm = ln := h_535
        have h_536 : bcm = bc := h_536
        have h_537 : wm = w := h_537
        have h_538 : hm = h := h_538
        have h_539 : f_tape = tf := h_539
        have h_540 : s_fault = fk := h_540
        have h_541 : s_faultPlace = fp := h_541
        have h_542 : f_low = f1 := h_542
        have h_543 : f_high = f2 := h_543
        have h_544 : f_crack = f5 := h_544
        have h_545 : f_weight = B2 := h_545
        have h_546 : f_fire = B3 := h_546
        have h_547 : f_crowd = B4 := h_547
        have h_548 : f_state = B5 := h_548
        have h_549 : s_hours = ho := h_549
        have h_550 : s_fees = fe := h_550
        have h_551 : CI bc w h B1 B2 B5 B6 B7 f3 f4 wt wh := h_551
        have h_552 : ∀ b, b < bc → B5 b = 1 → f_where b = nI (wh b) := h_552
        have h_553 : Kc P cf1 cf2 cf3 cf4 sc := h_553
        have h_554 : Km P sn f_rule f_stair := h_554
        have h_555 : PB P := h_555
        have h_556 : ∀ c, c < 100 → 0 ≤ (f1 c).toInt ∧ (f1 c).toInt ≤ 99 := h_556
        have h_557 : ∀ c, ¬ (c % 10 < w ∧ c / 10 < h) → f5 c = 0 := h_557
        have h_558 : SB P := h_558
        refine lv_iinc (v := nI (7 * t + 7)) (lv' := [(4, Value.int (nI (7 * t + 7))), (0, Value.ref b), (1, Value.ref h0), (2, Value.ref mo), (3, Value.ref qo)]) hx hb dL_law_711 hl (k := 4) rfl (nI_add (7 * t) 7) (by decide) rfl (fun ls hl => ?_)
        rw [show 7 * t + 7 = 7 * (t + 1) from rfl] at hl
        have hl : lv_has ls 7 [(4, Value.int (nI (7 * (t + 1)))), (0, Value.ref b), (1, Value.ref h0), (2, Value.ref mo), (3, Value.ref qo)] := hl
        refine lv_goto (tgt := 23) hx hb dL_law_714 (by decide) ?_
        refine W.widen (k := 67 + (t + 1)) (n := 3176 + 6 * (t + 1)) (by omega) (by omega) ?_
        exact ih ln tf lnm X_s_thrown_528 f_tape fk fp tx rl nx tk sa vl fv dsc dto ef1 ef2 ef3 ef4 sc to cf1 cf2 cf3 cf4 sn s_readStairs s_fault s_faultPlace s_end s_next s_kind s_which s_place s_read f_stair f_rules f_told f_rule P bc ho fe w h f1 f2 f3 f4 f5 wm hm bcm s_hours s_fees f_low f_high f_crack B1 B2 B3 B4 B5 B6 B7 f_weight f_fire f_crowd f_state wt f_where wh f6 f_breaks lk wn on ab l1 l2 l3 l4 l5 s_looks f_row f_tried qd cr s1 s2 s3 s4 f_steps f_paths X_fo_527 (t + 1) (by omega) (by omega) (by omega) (by omega) (by omega) h_534 (by omega) (by omega) (by omega) (by omega) h_539 h_540 h_541 h_542 h_543 h_544 h_545 h_546 h_547 h_548 h_549 h_550 h_551 h_552 h_553 h_554 h_555 h_556 h_557 h_558 (by omega) (by omega) (by omega) H locs (hP.sub [0, 1, 2, 3, 4, 5, 6, 7, 8, 9, 10, 11, 12, 13, 14, 15, 16, 17, 18, 19, 20, 21, 22, 23, 24, 25, 26, 27, 28, 29, 30, 31, 32, 33, 34, 35, 36, 37, 38, 39, 40, 41, 42, 43, 44, 45, 46, 47, 48, 49, 50, 51, 52, 53, 54, 55, 56, 57, 58, 59, 60, 61, 62, 63, 64, 65] rfl) (hD.sub [0, 1, 2, 3, 4, 5, 6, 7, 8, 9, 10, 11, 12, 13, 14, 15, 16, 17, 18, 19, 20, 21, 22, 23, 24, 25, 26, 27, 28, 29, 30, 31, 32, 33, 34, 35, 36, 37, 38, 39, 40, 41, 42, 43, 44, 45, 46, 47, 48, 49, 50, 51, 52, 53, 54, 55, 56, 57, 58, 59, 60, 61, 62, 63, 64, 65] (by decide) rfl) hS ls (lv_sub hl [1, 2, 3, 4, 0] rfl)
      by_cases w_6_13 : z_5 = 13
      · skip
        subst w_6_13
        refine lv_tableIn (tgt := 618) hx hb dL_law_40 (by decide) (by decide) rfl (by decide) ?_
        have hl : lv_has ls 7 [(0, Value.ref b), (1, Value.ref h0), (2, Value.ref mo), (3, Value.ref qo), (4, Value.int (nI (7 * t)))] := hl
        refine lw_case_618 F hA bo B1 B2 B3 B4 B5 B6 B7 h0 tp rd dr fa ly wy tp1 ln tc tf fk fp va tx rl nx tk sa vl vc fv dr1 dr2 dr3 dr4 dsc dto ec1 ef1 ec2 ef2 ec3 ef3 ec4 ef4 cu rv bt bc ho fe cu1 cu2 cu3 cu4 sc to cc1 cf1 cc2 cf2 cc3 cf3 cc4 cf4 w h q1 q2 q3 q4 q5 q6 cy1 f1 cy2 f2 cy3 f3 cy4 f4 cy5 f5 cy6 f6 bc9 lk ly1 wn ly2 ly3 ly4 on ly5 ab lc1 l1 lc2 l2 lc3 l3 lc4 l4 lc5 l5 wy1 wy2 qd wy3 wy4 cr wc1 s1 wc2 s2 wc3 s3 wc4 s4 mo m_tape lnm s_thrown m_rule m_rules sn m_stair s_readStairs s_fault s_faultPlace wm hm m_low m_high m_crack bcm m_weight m_fire m_crowd m_state m_where s_hours s_fees s_looks m_words s_end s_next s_kind s_which s_place s_read m_told m_breaks m_row m_tried m_steps m_paths y_tape f_tape y_rule f_rule y_rules f_rules y_stair f_stair y_low f_low y_high f_high y_crack f_crack y_weight f_weight y_fire f_fire y_crowd f_crowd y_state f_state y_where f_where y_words y_told f_told y_breaks f_breaks y_row f_row y_tried f_tried y_steps f_steps y_paths f_paths qo yo fo (7 * t) (67 + t) (3176 + 6 * t) us e1 e2 e3 e4 en kk b L xs wt wh P (hK.sub [0, 1, 2, 3, 4, 5, 6, 7, 8, 9, 10, 11, 12, 13, 14, 15, 16, 17, 18, 19, 20, 21, 22, 23, 24, 25, 26, 27, 28, 29, 30, 31, 32, 33, 34, 35, 36, 37, 38, 39, 40, 41, 42, 43, 44, 45] rfl) hXC hXE hXs hbl hbA hlt (fun X_qd_559 X_cr_560 X_s1_561 X_s2_562 X_s3_563 X_s4_564 X_fo_565 X_s_thrown_566 X_f_steps_567 X_f_paths_568 h_569 h_570 h_571 h_572 h_573 h_574 h_575 h_576 h_577 h_578 h_579 h_580 h_581 h_582 h_583 h_584 h_585 h_586 h_587 h_588 h_589 h_590 h_591 h_592 h_593 h_594 h_595 h_596 h_597 h_598 H locs hP hD hS ls hl => ?_) _  (by omega) (by omega) (by omega) (by omega) (by omega) hst (by omega) (by omega) (by omega) (by omega) i_tf i_fk i_fp i_lo i_hi i_ck i_we i_fi i_cr i_st i_ho i_fe i_CI i_wr i_Kc i_Km i_PB i_lb i_ou i_SB (by omega) (by omega) (by omega) (by omega) (Nat.lt_succ_self _) _ _ (hP.sub [0, 1, 2, 3, 4, 5, 6, 7, 8, 9, 10, 11, 12, 13, 14, 15, 16, 17, 18, 19, 20, 21, 22, 23, 24, 25, 26, 27, 28, 29, 30, 31, 32, 33, 34, 35, 36, 37, 38, 39, 40, 41, 42, 43, 44, 45, 46, 47, 48, 49, 50, 51, 52, 53, 54, 55, 56, 57, 58, 59, 60, 61, 62, 63, 64, 65] rfl) (hD.sub [0, 1, 2, 3, 4, 5, 6, 7, 8, 9, 10, 11, 12, 13, 14, 15, 16, 17, 18, 19, 20, 21, 22, 23, 24, 25, 26, 27, 28, 29, 30, 31, 32, 33, 34, 35, 36, 37, 38, 39, 40, 41, 42, 43, 44, 45, 46, 47, 48, 49, 50, 51, 52, 53, 54, 55, 56, 57, 58, 59, 60, 61, 62, 63, 64, 65] (by decide) rfl) hS ls (lv_sub hl [0, 1, 2, 3, 4] rfl)
        have h_569 : ln ≤ 400 := h_569
        have h_570 : bc ≤ 10 := h_570
        have h_571 : w ≤ 10 := h_571
        have h_572 : h ≤ 10 := h_572
        have h_573 : sn ≤ 4 := h_573
        have h_574 : rOK 100 f_stair 24 := h_574
        have h_575 : lnm = ln := h_575
        have h_576 : bcm = bc := h_576
        have h_577 : wm = w := h_577
        have h_578 : hm = h := h_578
        have h_579 : f_tape = tf := h_579
        have h_580 : s_fault = fk := h_580
        have h_581 : s_faultPlace = fp := h_581
        have h_582 : f_low = f1 := h_582
        have h_583 : f_high = f2 := h_583
        have h_584 : f_crack = f5 := h_584
        have h_585 : f_weight = B2 := h_585
        have h_586 : f_fire = B3 := h_586
        have h_587 : f_crowd = B4 := h_587
        have h_588 : f_state = B5 := h_588
        have h_589 : s_hours = ho := h_589
        have h_590 : s_fees = fe := h_590
        have h_591 : CI bc w h B1 B2 B5 B6 B7 f3 f4 wt wh := h_591
        have h_592 : ∀ b, b < bc → B5 b = 1 → f_where b = nI (wh b) := h_592
        have h_593 : Kc P cf1 cf2 cf3 cf4 sc := h_593
        have h_594 : Km P sn f_rule f_stair := h_594
        have h_595 : PB P := h_595
        have h_596 : ∀ c, c < 100 → 0 ≤ (f1 c).toInt ∧ (f1 c).toInt ≤ 99 := h_596
        have h_597 : ∀ c, ¬ (c % 10 < w ∧ c / 10 < h) → f5 c = 0 := h_597
        have h_598 : SB P := h_598
        refine lv_iinc (v := nI (7 * t + 7)) (lv' := [(4, Value.int (nI (7 * t + 7))), (0, Value.ref b), (1, Value.ref h0), (2, Value.ref mo), (3, Value.ref qo)]) hx hb dL_law_711 hl (k := 4) rfl (nI_add (7 * t) 7) (by decide) rfl (fun ls hl => ?_)
        rw [show 7 * t + 7 = 7 * (t + 1) from rfl] at hl
        have hl : lv_has ls 7 [(4, Value.int (nI (7 * (t + 1)))), (0, Value.ref b), (1, Value.ref h0), (2, Value.ref mo), (3, Value.ref qo)] := hl
        refine lv_goto (tgt := 23) hx hb dL_law_714 (by decide) ?_
        refine W.widen (k := 67 + (t + 1)) (n := 3176 + 6 * (t + 1)) (by omega) (by omega) ?_
        exact ih ln tf lnm X_s_thrown_566 f_tape fk fp tx rl nx tk sa vl fv dsc dto ef1 ef2 ef3 ef4 sc to cf1 cf2 cf3 cf4 sn s_readStairs s_fault s_faultPlace s_end s_next s_kind s_which s_place s_read f_stair f_rules f_told f_rule P bc ho fe w h f1 f2 f3 f4 f5 wm hm bcm s_hours s_fees f_low f_high f_crack B1 B2 B3 B4 B5 B6 B7 f_weight f_fire f_crowd f_state wt f_where wh f6 f_breaks lk wn on ab l1 l2 l3 l4 l5 s_looks f_row f_tried X_qd_559 X_cr_560 X_s1_561 X_s2_562 X_s3_563 X_s4_564 X_f_steps_567 X_f_paths_568 X_fo_565 (t + 1) (by omega) (by omega) (by omega) (by omega) (by omega) h_574 (by omega) (by omega) (by omega) (by omega) h_579 h_580 h_581 h_582 h_583 h_584 h_585 h_586 h_587 h_588 h_589 h_590 h_591 h_592 h_593 h_594 h_595 h_596 h_597 h_598 (by omega) (by omega) (by omega) H locs (hP.sub [0, 1, 2, 3, 4, 5, 6, 7, 8, 9, 10, 11, 12, 13, 14, 15, 16, 17, 18, 19, 20, 21, 22, 23, 24, 25, 26, 27, 28, 29, 30, 31, 32, 33, 34, 35, 36, 37, 38, 39, 40, 41, 42, 43, 44, 45, 46, 47, 48, 49, 50, 51, 52, 53, 54, 55, 56, 57, 58, 59, 60, 61, 62, 63, 64, 65] rfl) (hD.sub [0, 1, 2, 3, 4, 5, 6, 7, 8, 9, 10, 11, 12, 13, 14, 15, 16, 17, 18, 19, 20, 21, 22, 23, 24, 25, 26, 27, 28, 29, 30, 31, 32, 33, 34, 35, 36, 37, 38, 39, 40, 41, 42, 43, 44, 45, 46, 47, 48, 49, 50, 51, 52, 53, 54, 55, 56, 57, 58, 59, 60, 61, 62, 63, 64, 65] (by decide) rfl) hS ls (lv_sub hl [1, 2, 3, 4, 0] rfl)
      by_cases w_6_14 : z_5 = 14
      · skip
        subst w_6_14
        refine lv_tableIn (tgt := 686) hx hb dL_law_40 (by decide) (by decide) rfl (by decide) ?_
        have hl : lv_has ls 7 [(0, Value.ref b), (1, Value.ref h0), (2, Value.ref mo), (3, Value.ref qo), (4, Value.int (nI (7 * t)))] := hl
        refine lw_case_686 F hA bo B1 B2 B3 B4 B5 B6 B7 h0 tp rd dr fa ly wy tp1 ln tc tf fk fp va tx rl nx tk sa vl vc fv dr1 dr2 dr3 dr4 dsc dto ec1 ef1 ec2 ef2 ec3 ef3 ec4 ef4 cu rv bt bc ho fe cu1 cu2 cu3 cu4 sc to cc1 cf1 cc2 cf2 cc3 cf3 cc4 cf4 w h q1 q2 q3 q4 q5 q6 cy1 f1 cy2 f2 cy3 f3 cy4 f4 cy5 f5 cy6 f6 bc9 lk ly1 wn ly2 ly3 ly4 on ly5 ab lc1 l1 lc2 l2 lc3 l3 lc4 l4 lc5 l5 wy1 wy2 qd wy3 wy4 cr wc1 s1 wc2 s2 wc3 s3 wc4 s4 mo m_tape lnm s_thrown m_rule m_rules sn m_stair s_readStairs s_fault s_faultPlace wm hm m_low m_high m_crack bcm m_weight m_fire m_crowd m_state m_where s_hours s_fees s_looks m_words s_end s_next s_kind s_which s_place s_read m_told m_breaks m_row m_tried m_steps m_paths y_tape f_tape y_rule f_rule y_rules f_rules y_stair f_stair y_low f_low y_high f_high y_crack f_crack y_weight f_weight y_fire f_fire y_crowd f_crowd y_state f_state y_where f_where y_words y_told f_told y_breaks f_breaks y_row f_row y_tried f_tried y_steps f_steps y_paths f_paths qo yo fo (7 * t) (67 + t) (3176 + 6 * t) us e1 e2 e3 e4 en kk b L xs wt wh P (hK.sub [0, 1, 2, 3, 4, 5, 6, 7, 8, 9, 10, 11, 12, 13, 14, 15, 16, 17, 18, 19, 20, 21, 22, 23, 24, 25, 26, 27, 28, 29, 30, 31, 32, 33, 34, 35, 36, 37, 38, 39, 40, 41, 42, 43, 44, 45] rfl) hXC hXE hXs hbl hbA hlt (fun X_s_thrown_599 h_600 h_601 h_602 h_603 h_604 h_605 h_606 h_607 h_608 h_609 h_610 h_611 h_612 h_613 h_614 h_615 h_616 h_617 h_618 h_619 h_620 h_621 h_622 h_623 h_624 h_625 h_626 h_627 h_628 h_629 H locs hP hD hS ls hl => ?_) _  (by omega) (by omega) (by omega) (by omega) (by omega) hst (by omega) (by omega) (by omega) (by omega) i_tf i_fk i_fp i_lo i_hi i_ck i_we i_fi i_cr i_st i_ho i_fe i_CI i_wr i_Kc i_Km i_PB i_lb i_ou i_SB (by omega) (by omega) (by omega) (by omega) (Nat.lt_succ_self _) _ _ (hP.sub [0, 1, 2, 3, 4, 5, 6, 7, 8, 9, 10, 11, 12, 13, 14, 15, 16, 17, 18, 19, 20, 21, 22, 23, 24, 25, 26, 27, 28, 29, 30, 31, 32, 33, 34, 35, 36, 37, 38, 39, 40, 41, 42, 43, 44, 45, 46, 47, 48, 49, 50, 51, 52, 53, 54, 55, 56, 57, 58, 59, 60, 61, 62, 63, 64, 65] rfl) (hD.sub [0, 1, 2, 3, 4, 5, 6, 7, 8, 9, 10, 11, 12, 13, 14, 15, 16, 17, 18, 19, 20, 21, 22, 23, 24, 25, 26, 27, 28, 29, 30, 31, 32, 33, 34, 35, 36, 37, 38, 39, 40, 41, 42, 43, 44, 45, 46, 47, 48, 49, 50, 51, 52, 53, 54, 55, 56, 57, 58, 59, 60, 61, 62, 63, 64, 65] (by decide) rfl) hS ls (lv_sub hl [0, 1, 2, 3, 4] rfl)
        have h_600 : ln ≤ 400 := h_600
        have h_601 : bc ≤ 10 := h_601
        have h_602 : w ≤ 10 := h_602
        have h_603 : h ≤ 10 := h_603
        have h_604 : sn ≤ 4 := h_604
        have h_605 : rOK 100 f_stair 24 := h_605
        have h_606 : lnm = ln := h_606
        have h_607 : bcm = bc := h_607
        have h_608 : wm = w := h_608
        have h_609 : hm = h := h_609
        have h_610 : f_tape = tf := h_610
        have h_611 : s_fault = fk := h_611
        have h_612 : s_faultPlace = fp := h_612
        have h_613 : f_low = f1 := h_613
        have h_614 : f_high = f2 := h_614
        have h_615 : f_crack = f5 := h_615
        have h_616 : f_weight = B2 := h_616
        have h_617 : f_fire = B3 := h_617
        have h_618 : f_crowd = B4 := h_618
        have h_619 : f_state = B5 := h_619
        have h_620 : s_hours = ho := h_620
        have h_621 : s_fees = fe := h_621
        have h_622 : CI bc w h B1 B2 B5 B6 B7 f3 f4 wt wh := h_622
        have h_623 : ∀ b, b < bc → B5 b = 1 → f_where b = nI (wh b) := h_623
        have h_624 : Kc P cf1 cf2 cf3 cf4 sc := h_624
        have h_625 : Km P sn f_rule f_stair := h_625
        have h_626 : PB P := h_626
        have h_627 : ∀ c, c < 100 → 0 ≤ (f1 c).toInt ∧ (f1 c).toInt ≤ 99 := h_627
        have h_628 : ∀ c, ¬ (c % 10 < w ∧ c / 10 < h) → f5 c = 0 := h_628
        have h_629 : SB P := h_629
        refine lv_iinc (v := nI (7 * t + 7)) (lv' := [(4, Value.int (nI (7 * t + 7))), (0, Value.ref b), (1, Value.ref h0), (2, Value.ref mo), (3, Value.ref qo)]) hx hb dL_law_711 hl (k := 4) rfl (nI_add (7 * t) 7) (by decide) rfl (fun ls hl => ?_)
        rw [show 7 * t + 7 = 7 * (t + 1) from rfl] at hl
        have hl : lv_has ls 7 [(4, Value.int (nI (7 * (t + 1)))), (0, Value.ref b), (1, Value.ref h0), (2, Value.ref mo), (3, Value.ref qo)] := hl
        refine lv_goto (tgt := 23) hx hb dL_law_714 (by decide) ?_
        refine W.widen (k := 67 + (t + 1)) (n := 3176 + 6 * (t + 1)) (by omega) (by omega) ?_
        exact ih ln tf lnm X_s_thrown_599 f_tape fk fp tx rl nx tk sa vl fv dsc dto ef1 ef2 ef3 ef4 sc to cf1 cf2 cf3 cf4 sn s_readStairs s_fault s_faultPlace s_end s_next s_kind s_which s_place s_read f_stair f_rules f_told f_rule P bc ho fe w h f1 f2 f3 f4 f5 wm hm bcm s_hours s_fees f_low f_high f_crack B1 B2 B3 B4 B5 B6 B7 f_weight f_fire f_crowd f_state wt f_where wh f6 f_breaks lk wn on ab l1 l2 l3 l4 l5 s_looks f_row f_tried qd cr s1 s2 s3 s4 f_steps f_paths fo (t + 1) (by omega) (by omega) (by omega) (by omega) (by omega) h_605 (by omega) (by omega) (by omega) (by omega) h_610 h_611 h_612 h_613 h_614 h_615 h_616 h_617 h_618 h_619 h_620 h_621 h_622 h_623 h_624 h_625 h_626 h_627 h_628 h_629 (by omega) (by omega) (by omega) H locs (hP.sub [0, 1, 2, 3, 4, 5, 6, 7, 8, 9, 10, 11, 12, 13, 14, 15, 16, 17, 18, 19, 20, 21, 22, 23, 24, 25, 26, 27, 28, 29, 30, 31, 32, 33, 34, 35, 36, 37, 38, 39, 40, 41, 42, 43, 44, 45, 46, 47, 48, 49, 50, 51, 52, 53, 54, 55, 56, 57, 58, 59, 60, 61, 62, 63, 64, 65] rfl) (hD.sub [0, 1, 2, 3, 4, 5, 6, 7, 8, 9, 10, 11, 12, 13, 14, 15, 16, 17, 18, 19, 20, 21, 22, 23, 24, 25, 26, 27, 28, 29, 30, 31, 32, 33, 34, 35, 36, 37, 38, 39, 40, 41, 42, 43, 44, 45, 46, 47, 48, 49, 50, 51, 52, 53, 54, 55, 56, 57, 58, 59, 60, 61, 62, 63, 64, 65] (by decide) rfl) hS ls (lv_sub hl [1, 2, 3, 4, 0] rfl)
      refine lv_tableOut (tgt := 711) hx hb dL_law_40 (m_out z_5 (by decide) (by decide) (fun j h1 h2 => ?_)) (by decide) ?_
      · skip
        rcases (show j = 0 ∨ j = 1 ∨ j = 2 ∨ j = 3 ∨ j = 4 ∨ j = 5 ∨ j = 6 ∨ j = 7 ∨ j = 8 ∨ j = 9 ∨ j = 10 ∨ j = 11 ∨ j = 12 ∨ j = 13 ∨ j = 14 by omega) with rfl | rfl | rfl | rfl | rfl | rfl | rfl | rfl | rfl | rfl | rfl | rfl | rfl | rfl | rfl
        · exact w_6_0
        · exact w_6_1
        · exact w_6_2
        · exact w_6_3
        · exact w_6_4
        · exact w_6_5
        · exact w_6_6
        · exact w_6_7
        · exact w_6_8
        · exact w_6_9
        · exact w_6_10
        · exact w_6_11
        · exact w_6_12
        · exact w_6_13
        · exact w_6_14
      refine lv_iinc (v := nI (7 * t + 7)) (lv' := [(4, Value.int (nI (7 * t + 7))), (0, Value.ref b), (1, Value.ref h0), (2, Value.ref mo), (3, Value.ref qo)]) hx hb dL_law_711 hl (k := 4) rfl (nI_add (7 * t) 7) (by decide) rfl (fun ls hl => ?_)
      rw [show 7 * t + 7 = 7 * (t + 1) from rfl] at hl
      have hl : lv_has ls 7 [(4, Value.int (nI (7 * (t + 1)))), (0, Value.ref b), (1, Value.ref h0), (2, Value.ref mo), (3, Value.ref qo)] := hl
      refine lv_goto (tgt := 23) hx hb dL_law_714 (by decide) ?_
      refine W.widen (k := 67 + (t + 1)) (n := 3176 + 6 * (t + 1)) (by omega) (by omega) ?_
      exact ih ln tf lnm s_thrown f_tape fk fp tx rl nx tk sa vl fv dsc dto ef1 ef2 ef3 ef4 sc to cf1 cf2 cf3 cf4 sn s_readStairs s_fault s_faultPlace s_end s_next s_kind s_which s_place s_read f_stair f_rules f_told f_rule P bc ho fe w h f1 f2 f3 f4 f5 wm hm bcm s_hours s_fees f_low f_high f_crack B1 B2 B3 B4 B5 B6 B7 f_weight f_fire f_crowd f_state wt f_where wh f6 f_breaks lk wn on ab l1 l2 l3 l4 l5 s_looks f_row f_tried qd cr s1 s2 s3 s4 f_steps f_paths fo (t + 1) (by omega) (by omega) (by omega) (by omega) (by omega) hst (by omega) (by omega) (by omega) (by omega) i_tf i_fk i_fp i_lo i_hi i_ck i_we i_fi i_cr i_st i_ho i_fe i_CI i_wr i_Kc i_Km i_PB i_lb i_ou i_SB (by omega) (by omega) (by omega) H locs (hP.sub [0, 1, 2, 3, 4, 5, 6, 7, 8, 9, 10, 11, 12, 13, 14, 15, 16, 17, 18, 19, 20, 21, 22, 23, 24, 25, 26, 27, 28, 29, 30, 31, 32, 33, 34, 35, 36, 37, 38, 39, 40, 41, 42, 43, 44, 45, 46, 47, 48, 49, 50, 51, 52, 53, 54, 55, 56, 57, 58, 59, 60, 61, 62, 63, 64, 65] rfl) (hD.sub [0, 1, 2, 3, 4, 5, 6, 7, 8, 9, 10, 11, 12, 13, 14, 15, 16, 17, 18, 19, 20, 21, 22, 23, 24, 25, 26, 27, 28, 29, 30, 31, 32, 33, 34, 35, 36, 37, 38, 39, 40, 41, 42, 43, 44, 45, 46, 47, 48, 49, 50, 51, 52, 53, 54, 55, 56, 57, 58, 59, 60, 61, 62, 63, 64, 65] (by decide) rfl) hS ls (lv_sub hl [1, 2, 3, 4, 0] rfl)
