section EXC
abbrev nIO : String := "java/lang/IndexOutOfBoundsException"
abbrev nNS : String := "java/util/NoSuchElementException"
abbrev nRT : String := "java/lang/RuntimeException"
abbrev nEX : String := "java/lang/Exception"
/-- what a method asks of the state that may throw -/
def xE (s1 s2 s3 s4 : Nat) : (Nat → Prop) → State → Prop := fun A U =>
  vx_Zq Bundle.tN "UNASSIGNED_STACK" Bundle.steD A U U.heap ∧ vx_Zq Bundle.tN "SUPPRESSED_SENTINEL" Bundle.listD A U U.heap ∧
  (vk_R RX9 144 "no such cell" s1 U ∧ vk_R RX9 178 "no such what of a cell" s2 U ∧ vk_R RX9 181 "no such booth" s3 U ∧ vk_R RX9 197 "no such what of a booth" s4 U) ∧
  (va_Nw (.declares (Bundle.initS nRT)) U ∧ va_Nw (.declares (Bundle.initS nEX)) U ∧ va_Nw (.declares (Bundle.initS Bundle.tN)) U) ∧ va_Nw (.castable nIO nIO) U ∧ va_Nw (.castable nNS nNS) U ∧ va_Nc nNS nIO U
theorem xE_move (s1 s2 s3 s4 : Nat) : xMove (xE s1 s2 s3 s4) := by
  intro A U V hvm hh h
  obtain ⟨h1, h2, ⟨a1, a2, a3, a4⟩, ⟨b1, b2, b3⟩, c1, c2, c3⟩ := h
  have al : U.vm.Alike V.vm := by rw [hvm]; exact Vm.Alike.refl _
  exact ⟨by rw [hh]; exact vx_Zq.moved al h1, by rw [hh]; exact vx_Zq.moved al h2, ⟨vk_R.same hvm.symm a1, vk_R.same hvm.symm a2, vk_R.same hvm.symm a3, vk_R.same hvm.symm a4⟩, ⟨va_Nw.same rfl hvm b1, va_Nw.same rfl hvm b2, va_Nw.same rfl hvm b3⟩, va_Nw.same rfl hvm c1, va_Nw.same rfl hvm c2, va_Nc.moved al c3⟩
theorem xE_use {s1 s2 s3 s4 : Nat} {s : State} {A : Nat → Prop} {H : Heap} {locs : List Loc} {wc : va_W} (hX : xE s1 s2 s3 s4 A s) (hS : va_S A s.heap H locs) (hF : ∀ q, va_A wc H.size q → A q) : ∀ U : State, U.heap = H → s.WarmedH U.vm → xE s1 s2 s3 s4 (va_A wc H.size) U := by
  intro U hU hW
  obtain ⟨h1, h2, ⟨a1, a2, a3, a4⟩, ⟨b1, b2, b3⟩, c1, c2, c3⟩ := hX
  exact ⟨by rw [hU]; exact vx_Zq.moved hW.alike ((h1.kept hS.2.1).narrow hF), by rw [hU]; exact vx_Zq.moved hW.alike ((h2.kept hS.2.1).narrow hF), ⟨vk_R.warm hW a1, vk_R.warm hW a2, vk_R.warm hW a3, vk_R.warm hW a4⟩, ⟨va_Nw.warmD hW b1, va_Nw.warmD hW b2, va_Nw.warmD hW b3⟩, va_Nw.warmC hW c1, va_Nw.warmC hW c2, va_Nc.moved hW.alike c3⟩
theorem gwE1 : ∀ w ∈ (vx_atS RX9 146 nIO [nRT, nEX]).filter goodWord, w ∈ gw := fun w h => gw_in ((by decide +kernel : ∀ w ∈ (vx_atS RX9 146 nIO [nRT, nEX]).filter goodWord, w ∈ lw_tbl) w h) (List.mem_filter.mp h).2
theorem gwE2 : ∀ w ∈ ((mx_atoms RX9 180 nNS nRT 13 prog_23_method_4_code [nEX]).filter vx_no).filter goodWord, w ∈ gw := fun w h => gw_in ((by decide +kernel : ∀ w ∈ ((mx_atoms RX9 180 nNS nRT 13 prog_23_method_4_code [nEX]).filter vx_no).filter goodWord, w ∈ lw_tbl) w h) (List.mem_filter.mp h).2
theorem nbE1 : ∀ w ∈ (vx_atS RX9 146 nIO [nRT, nEX]).filter (fun w => !goodWord w), w ∈ [Cond.declares (Bundle.initS nRT), Cond.declares (Bundle.initS nEX), Cond.declares (Bundle.initS Bundle.tN), Cond.castable nIO nIO] := by decide +kernel
theorem nbE2 : ∀ w ∈ ((mx_atoms RX9 180 nNS nRT 13 prog_23_method_4_code [nEX]).filter vx_no).filter (fun w => !goodWord w), w ∈ [Cond.declares (Bundle.initS nRT), Cond.declares (Bundle.initS nEX), Cond.declares (Bundle.initS Bundle.tN), Cond.castable nNS nNS] := by decide +kernel
theorem otE1 (ik : Nat) : ∀ w ∈ Cond.classLink RX9 ik nIO :: Cond.initialized nIO :: vx_atS RX9 146 nIO [nRT, nEX], vx_ot w = true := by
  intro w hw
  rcases List.mem_cons.mp hw with rfl | hw
  · rfl
  exact (by decide +kernel : ∀ w ∈ Cond.initialized nIO :: vx_atS RX9 146 nIO [nRT, nEX], vx_ot w = true) w hw
theorem otE2 (ik : Nat) : ∀ w ∈ Cond.classLink RX9 ik nNS :: Cond.initialized nNS :: (mx_atoms RX9 180 nNS nRT 13 prog_23_method_4_code [nEX]).filter vx_no, vx_ot w = true := by
  intro w hw
  rcases List.mem_cons.mp hw with rfl | hw
  · rfl
  exact (by decide +kernel : ∀ w ∈ Cond.initialized nNS :: (mx_atoms RX9 180 nNS nRT 13 prog_23_method_4_code [nEX]).filter vx_no, vx_ot w = true) w hw
theorem hatE1 {args : Array Value} {s : State} {A : Nat → Prop} {s1 s2 s3 s4 : Nat} (hts : ∀ w ∈ gw, w.before args s = true) (hX : xE s1 s2 s3 s4 A s) : ∀ w ∈ vx_atS RX9 146 nIO [nRT, nEX], w.before args s = true :=
  vx_hat (fun w h => hts w (gwE1 w h)) nbE1 (vx_c (va_Nw.use rfl hX.2.2.2.1.1) (vx_c (va_Nw.use rfl hX.2.2.2.1.2.1) (vx_c (va_Nw.use rfl hX.2.2.2.1.2.2) (vx_c (va_Nw.use rfl hX.2.2.2.2.1) vx_n))))
theorem hatE2 {args : Array Value} {s : State} {A : Nat → Prop} {s1 s2 s3 s4 : Nat} (hts : ∀ w ∈ gw, w.before args s = true) (hX : xE s1 s2 s3 s4 A s) : ∀ w ∈ (mx_atoms RX9 180 nNS nRT 13 prog_23_method_4_code [nEX]).filter vx_no, w.before args s = true :=
  vx_hat (fun w h => hts w (gwE2 w h)) nbE2 (vx_c (va_Nw.use rfl hX.2.2.2.1.1) (vx_c (va_Nw.use rfl hX.2.2.2.1.2.1) (vx_c (va_Nw.use rfl hX.2.2.2.1.2.2) (vx_c (va_Nw.use rfl hX.2.2.2.2.2.1) vx_n))))
theorem vaF_thrown {A : Nat → Prop} {s t : State} {H : Heap} {locs : List Loc} (hS : va_S A s.heap H locs) (h1 : H.size ≤ t.heap.size) (h2 : ∀ q : Nat, q < H.size → t.heap[q]? = H[q]?) : va_F A s t :=
  ⟨Nat.le_trans hS.1 h1, fun q hq hn => by rw [h2 q (Nat.lt_of_lt_of_le hq hS.1)]; exact hS.2.1 q hq hn⟩
variable {p : Program} {l : Launch} {e : Env} {R : Room} {s : State} {m : MethodId} {args : Array Value} {below : List Frame} {meth : Method} {c : Code} {H : Heap} {locs : List Loc} {cells slots : Nat} {Q : State → Prop}
variable {cc : ByteArray} {nL pc : Nat} {ls : Array Slot} {rest st : List Value} {D : va_G} {A : Nat → Prop} {tys : List (ClassId × FieldType)} {ws : va_W} {own : String}
def kSW (R : Room) (own : String) (idx : Nat) (y : MethodName) (bytes : ByteArray) (maxL : Nat) (ret : Option FieldType) (hh : List (Nat × Nat × Nat × Nat)) (rm : Room) (n : Nat) : Prop :=
  GoodIn gw (va_wsS own idx y (.codeWith y bytes maxL ret hh :: gw)) ∧ (y.cls ≠ "java/lang/invoke/MethodHandle" ∧ y.cls ≠ "java/lang/invoke/VarHandle" ∧ (parseMethodDescriptor y.desc).map (fun d => d.parameters.length) = some n) ∧ rm.frames + 1 ≤ R.frames ∧ 8 + (maxL + 11) + rm.locals ≤ R.locals
theorem mc_Wi {idx : Nat} {y : MethodName} {bytes : ByteArray} {maxL n : Nat} {ret : Option FieldType} {hh : List (Nat × Nat × Nat × Nat)} {rm : Room} {tyc : List (ClassId × FieldType)} {wc wr : va_W} {X : (Nat → Prop) → State → Prop} {As : List Value} {S : Type} {post : Int32 → S → Prop} {tys1 : S → List (ClassId × FieldType)} {w1 : S → va_W}
    (F : mFix p s m args c cc nL own) (hK : va_K D vwCl tys s) (hP : va_P D vwCl ws H) (hD : va_D A ws) (hS : va_S A s.heap H locs) (hA : ∀ q, s.heap.size ≤ q → A q)
    (hM : cI l y (.codeWith y bytes maxL ret hh) rm D tyc wc X As post tys1 w1) (k : kSW R own idx y bytes maxL ret hh rm n) (isC isR isT : List Nat) (hC : mCut ws wc wr isC isR) (hT : isT.filterMap (fun i => tys[i]?) = tyc) (hXm : xMove X) (hX : ∀ U : State, U.heap = H → s.WarmedH U.vm → X (va_A wc H.size) U)
    (hn : As.length = n) (hls : ls.size = nL) (hst : st = As.reverse ++ rest) (hroom : (rest.map fun v => v.category).sum ≤ 8) (hdg : decode cc pc = .ok (.invokestatic idx, 3)) (hf : cells + rm.cells ≤ R.cells ∧ slots + rm.slots ≤ R.slots)
    (kk : ∀ (r : Int32) (u : S) (H1 : Heap) (locs1 : List Loc), post r u → va_K D vwCl (tys1 u) s → va_P D vwCl (wr ++ w1 u) H1 → va_D A (wr ++ w1 u) → va_S A s.heap H1 locs1 → W p l e R s m args below meth c H1 locs1 (cells + rm.cells) (slots + rm.slots) Q (F0 m (pc + 3) ls (.int r :: rest))) :
    W p l e R s m args below meth c H locs cells slots Q (F0 m pc ls st) := by
  subst hst
  obtain ⟨hx, hb, hml, hown, hts⟩ := F
  have hFc := va_free (wc := wc) hD hS hA isC hC.1
  exact va_calli (vx_runSW (As := As) (rest := rest) ⟨hx, hb, hml, hown, hts⟩ (hM H.size) (vx_cwSW n hts k.1 rfl rfl rfl k.2.1 k.2.2) ⟨mPre_blind hXm, m_pre hK hP hD hC hT hX⟩ rfl hn hls rfl (lv_room hroom) hdg hf) hS (fun q _ h => hFc q h) hFc
    (fun r u t H1 locs1 ht hvm hw hB _ hk1 hS1 => by
      obtain ⟨a1, a2, a3⟩ := m_back hP hD hS hA hC ht hvm hB hk1
      exact kk r u H1 locs1 hw a1 a2 a3 hS1)
end EXC
section EXC2
theorem P_thrown {D : va_G} {cl : List vw_C} {ws : va_W} {H H1 : Heap} (h : va_P D cl ws H) (h2 : ∀ q : Nat, q < H.size → H1[q]? = H[q]?) : va_P D cl ws H1 := h.kept (fun k q hq => h2 q.1 (h k q hq).lt)
/-- the contract of a method that answers an int, or throws and leaves the world as it was -/
def cXg (l : Launch) (y : MethodName) (cw : Cond) (rm : Room) (D : va_G) (tys : List (ClassId × FieldType)) (ws : va_W) (X : (Nat → Prop) → State → Prop) (av : List Value) {S : Type} (post : Int32 → S → Prop) (tys1 : S → List (ClassId × FieldType)) (w1 : S → va_W) (px : String → Prop) : Prop :=
  ∀ sz : Nat, vx_Met l y (cw :: gw) rm (mPre D tys ws (X (va_A ws sz)) av sz) (va_Qi post (mB D (va_A ws sz) tys1 w1) (va_A ws sz)) (vx_X (S := Unit) (fun _ => True) (fun E _ t => px E ∧ va_P D vwCl ws t.heap ∧ va_D (va_A ws sz) ws) (va_A ws sz)) rm.cells rm.slots (va_A ws sz)
variable {p : Program} {l : Launch} {e : Env} {R : Room} {s : State} {m : MethodId} {args : Array Value} {below : List Frame} {meth : Method} {c : Code} {H : Heap} {locs : List Loc} {cells slots : Nat} {Q : State → Prop}
variable {cc : ByteArray} {nL pc : Nat} {ls : Array Slot} {rest st : List Value} {D : va_G} {A : Nat → Prop} {tys : List (ClassId × FieldType)} {ws : va_W} {own : String}
theorem mc_Xg {C : String} {idx : Nat} {y : MethodName} {bytes : ByteArray} {maxL n : Nat} {ret : Option FieldType} {rm : Room} {tyc : List (ClassId × FieldType)} {wc wr : va_W} {X : (Nat → Prop) → State → Prop} {As : List Value} {S : Type} {post : Int32 → S → Prop} {tys1 : S → List (ClassId × FieldType)} {w1 : S → va_W} {px : String → Prop} {b ci : Nat} {fs : List Value} {T : u_T} {N : Nat}
    (F : mFix p s m args c cc nL own) (hK : va_K D vwCl tys s) (hP : va_P D vwCl ws H) (hD : va_D A ws) (hS : va_S A s.heap H locs) (hA : ∀ q, s.heap.size ≤ q → A q)
    (hM : cXg l y (.code y bytes maxL ret) rm D tyc wc X (.ref b :: As) post tys1 w1 px) (k : kV R own C idx y bytes maxL ret rm n) (isC isR isT : List Nat) (hC : mCut ws wc wr isC isR) (hT : isT.filterMap (fun i => tys[i]?) = tyc) (hXm : xMove X) (hX : ∀ U : State, U.heap = H → s.WarmedH U.vm → X (va_A wc H.size) U)
    (q0 : Nat) (hq : ws[q0]? = some (b, .inr (ci, fs))) (hcl : vwCl[ci]? = some (C, T, N)) (hn : As.length = n) (hls : ls.size = nL) (hst : st = As.reverse ++ .ref b :: rest) (hroom : (rest.map fun v => v.category).sum ≤ 8) (hdg : decode cc pc = .ok (.invokevirtual idx, 3)) (hf : cells + rm.cells ≤ R.cells ∧ slots + rm.slots ≤ R.slots)
    (kx : ∀ (E : String) (ce : Cell) (q9 : Addr) (H1 : Heap) (locs1 : List Loc), px E → va_P D vwCl (wr ++ wc) H1 → va_D A (wr ++ wc) → va_S A s.heap H1 locs1 → H1[q9]? = some ce → ce.vm = .none → s.vm.findClass E = some ce.cls → vx_W p l e R s m args below meth c H1 locs1 (cells + rm.cells) (slots + rm.slots) Q (F0 m pc ls rest) q9)
    (kk : ∀ (r : Int32) (u : S) (H1 : Heap) (locs1 : List Loc), post r u → va_K D vwCl (tys1 u) s → va_P D vwCl (wr ++ w1 u) H1 → va_D A (wr ++ w1 u) → va_S A s.heap H1 locs1 → W p l e R s m args below meth c H1 locs1 (cells + rm.cells) (slots + rm.slots) Q (F0 m (pc + 3) ls (.int r :: rest))) :
    W p l e R s m args below meth c H locs cells slots Q (F0 m pc ls st) := by
  subst hst
  obtain ⟨hx, hb, hml, hown, hts⟩ := F
  have hFc := va_free (wc := wc) hD hS hA isC hC.1
  have hrv : ∃ cellB : Cell, H[b]? = some cellB ∧ cellB.vm.isStatics = false ∧ s.vm.findClass C = some cellB.cls := va_recv hK hP hcl hq
  exact vx_calli (vx_runV (As := As) (rest := rest) ⟨hx, hb, hml, hown, hts⟩ (hM H.size) (cwV n hts k.1 rfl rfl rfl k.2.1 k.2.2) ⟨mPre_blind hXm, hrv, m_pre hK hP hD hC hT hX⟩ rfl hn hls rfl (lv_room hroom) hdg hf) hS (fun q _ h => hFc q h) hFc (fun q _ h => hFc q h)
    (fun E ce q9 u t H1 locs1 ht hvm _ hpx _ hk1 hS1 hc1 hv1 hcl1 => by
      obtain ⟨hp1, hP1, hD1⟩ := hpx
      rw [ht] at hP1
      obtain ⟨a2, a3⟩ := va_join (w1 := wc) hP hD isC isR hC.1 hC.2.1 hC.2.2.2.1 hC.2.2.2.2 hk1 hFc hP1 hD1
      exact kx E ce q9 H1 locs1 hp1 a2 a3 hS1 hc1 hv1 hcl1)
    (fun r u t H1 locs1 ht hvm hw hB _ hk1 hS1 => by
      obtain ⟨a1, a2, a3⟩ := m_back hP hD hS hA hC ht hvm hB hk1
      exact kk r u H1 locs1 hw a1 a2 a3 hS1)
end EXC2
