section HELP
/-- the good words of the tables: every method of the system is proved over them all -/
def gw : List Cond := lw_tbl.filter goodWord
theorem gw_in {w : Cond} (h : w ∈ lw_tbl) (g : goodWord w = true) : w ∈ gw := List.mem_filter.mpr ⟨h, g⟩
theorem gw_t {w : Cond} (h : w ∈ tables_1) (g : goodWord w = true) : w ∈ gw := gw_in (List.mem_append_right _ h) g
theorem gw_t1 {w : Cond} (h : w ∈ tables_1_1) (g : goodWord w = true) : w ∈ gw := gw_t (List.mem_append_left _ h) g
theorem gw_t2 {w : Cond} (h : w ∈ tables_1_2) (g : goodWord w = true) : w ∈ gw := gw_t (List.mem_append_right _ (List.mem_append_left _ h)) g
theorem gw_t3 {w : Cond} (h : w ∈ tables_1_3) (g : goodWord w = true) : w ∈ gw := gw_t (List.mem_append_right _ (List.mem_append_right _ (List.mem_append_left _ h))) g
theorem gw_t4 {w : Cond} (h : w ∈ tables_1_4) (g : goodWord w = true) : w ∈ gw := gw_t (List.mem_append_right _ (List.mem_append_right _ (List.mem_append_right _ (List.mem_append_left _ h)))) g
theorem gw_t5 {w : Cond} (h : w ∈ tables_1_5) (g : goodWord w = true) : w ∈ gw := gw_t (List.mem_append_right _ (List.mem_append_right _ (List.mem_append_right _ (List.mem_append_right _ (List.mem_append_left _ h))))) g
theorem gw_t6 {w : Cond} (h : w ∈ tables_1_6) (g : goodWord w = true) : w ∈ gw := gw_t (List.mem_append_right _ (List.mem_append_right _ (List.mem_append_right _ (List.mem_append_right _ (List.mem_append_right _ h))))) g
theorem gw_s {y : MethodName} {n : Nat} (h : (y, n) ∈ lw_privs) : Cond.selects y.cls y y ∈ gw := gw_in (List.mem_append_left _ (List.mem_map.mpr ⟨_, h, rfl⟩)) rfl
theorem gi_c {c : Cond} (h : c ∈ gw) : GoodIn gw (c :: gw) := by
  intro w hw
  have hm : w ∈ gw := (List.mem_cons.mp hw).elim (fun e => e ▸ h) id
  exact ⟨hm, good_of_word (List.mem_filter.mp hm).2⟩
theorem gi_more {c : Cond} {l : List Cond} (hl : ∀ w ∈ l, w ∈ gw) (h : c ∈ gw) : GoodIn gw (l ++ c :: gw) := by
  intro w hw
  have hm : w ∈ gw := (List.mem_append.mp hw).elim (hl w) (fun h2 => (List.mem_cons.mp h2).elim (fun e => e ▸ h) id)
  exact ⟨hm, good_of_word (List.mem_filter.mp hm).2⟩
theorem gi_V {own C : String} {idx : Nat} {y : MethodName} {c : Cond} (h1 : Cond.methodLink own idx y ∈ gw) (h2 : Cond.instanceMethod y ∈ gw) (h3 : Cond.selects C y y ∈ gw) (h4 : Cond.initialized C ∈ gw) (hc : c ∈ gw) : GoodIn gw (wsV own idx C y (c :: gw)) :=
  gi_more (fun w h => by
    rcases List.mem_cons.mp h with rfl | h
    · exact h1
    rcases List.mem_cons.mp h with rfl | h
    · exact h2
    rcases List.mem_cons.mp h with rfl | h
    · exact h3
    rcases List.mem_cons.mp h with rfl | h
    · exact h4
    · cases h) hc
theorem gi_S {own : String} {idx : Nat} {y : MethodName} {c : Cond} (h1 : Cond.methodLink own idx y ∈ gw) (h2 : Cond.static y ∈ gw) (h3 : Cond.initialized own ∈ gw) (hc : c ∈ gw) : GoodIn gw (wsS own idx y (c :: gw)) :=
  gi_more (fun w h => by
    rcases List.mem_cons.mp h with rfl | h
    · exact h1
    rcases List.mem_cons.mp h with rfl | h
    · exact h2
    rcases List.mem_cons.mp h with rfl | h
    · exact h3
    · cases h) hc
/-- a contract's start: the world ws and its tables, and what else is asked of the state (X, of the cells that the method may change) -/
def mPre (D : va_G) (tys : List (ClassId × FieldType)) (ws : va_W) (X : State → Prop) (av : List Value) (sz : Nat) : Array Value → State → Prop :=
  va_Pc av (fun U => U.heap.size = sz ∧ va_P D vwCl ws U.heap ∧ va_K D vwCl tys U ∧ va_D (fun _ => True) ws ∧ X U)
def mB (D : va_G) (A : Nat → Prop) {S : Type} (tys1 : S → List (ClassId × FieldType)) (w1 : S → va_W) : S → State → Prop := fun u t => va_P D vwCl (w1 u) t.heap ∧ va_K D vwCl (tys1 u) t ∧ va_D A (w1 u)
/-- the contract of a method that answers an int (or a boolean) -/
def cI (l : Launch) (y : MethodName) (cw : Cond) (rm : Room) (D : va_G) (tys : List (ClassId × FieldType)) (ws : va_W) (X : (Nat → Prop) → State → Prop) (av : List Value) {S : Type} (post : Int32 → S → Prop) (tys1 : S → List (ClassId × FieldType)) (w1 : S → va_W) : Prop :=
  ∀ sz : Nat, Met l y (cw :: gw) rm (mPre D tys ws (X (va_A ws sz)) av sz) (va_Qi post (mB D (va_A ws sz) tys1 w1) (va_A ws sz)) rm.cells rm.slots (va_A ws sz)
/-- the contract of a method that answers nothing -/
def cV (l : Launch) (y : MethodName) (cw : Cond) (rm : Room) (D : va_G) (tys : List (ClassId × FieldType)) (ws : va_W) (X : (Nat → Prop) → State → Prop) (av : List Value) {S : Type} (post : S → Prop) (tys1 : S → List (ClassId × FieldType)) (w1 : S → va_W) : Prop :=
  ∀ sz : Nat, Met l y (cw :: gw) rm (mPre D tys ws (X (va_A ws sz)) av sz) (va_Qv post (mB D (va_A ws sz) tys1 w1) (va_A ws sz)) rm.cells rm.slots (va_A ws sz)
/-- the contract of a method that answers a reference or null -/
def cQ (l : Launch) (y : MethodName) (cw : Cond) (rm : Room) (D : va_G) (tys : List (ClassId × FieldType)) (ws : va_W) (X : (Nat → Prop) → State → Prop) (av : List Value) {S : Type} (post : Option Nat → S → Prop) (tys1 : S → List (ClassId × FieldType)) (w1 : S → va_W) : Prop :=
  ∀ sz : Nat, Met l y (cw :: gw) rm (mPre D tys ws (X (va_A ws sz)) av sz) (va_Qq post (mB D (va_A ws sz) tys1 w1) (va_A ws sz)) rm.cells rm.slots (va_A ws sz)
/-- nothing more is asked of the state -/
def xT : (Nat → Prop) → State → Prop := fun _ _ => True
def xMove (X : (Nat → Prop) → State → Prop) : Prop := ∀ (A : Nat → Prop) (U V : State), U.vm = V.vm → V.heap = U.heap → X A U → X A V
theorem xT_move : xMove xT := fun _ _ _ _ _ _ => trivial
theorem mPre_blind {D : va_G} {tys : List (ClassId × FieldType)} {ws : va_W} {X : (Nat → Prop) → State → Prop} (hX : xMove X) {av : List Value} {sz : Nat} : FrameBlind (mPre D tys ws (X (va_A ws sz)) av sz) := by
  intro a U g mk q
  obtain ⟨q0, q1, qP, qK, qD, qX⟩ := q
  exact ⟨q0, q1, qP, va_K.moved (u := U) (U := U.calling g mk a) (Vm.Alike.refl U.vm) qK, qD, hX _ U (U.calling g mk a) rfl rfl qX⟩
/-- a world with the same addresses is apart as the first is -/
theorem va_D_same {A : Nat → Prop} {ws ws' : va_W} (h : va_D A ws) (e : ws'.map (·.1) = ws.map (·.1)) : va_D A ws' := by
  have at' : ∀ (k : Nat) (q : Nat × va_E), ws'[k]? = some q → ∃ q', ws[k]? = some q' ∧ q'.1 = q.1 := by
    intro k q hq
    have h1 : (ws'.map (·.1))[k]? = some q.1 := by rw [List.getElem?_map, hq]; rfl
    rw [e, List.getElem?_map] at h1
    cases hw : ws[k]? with
    | none => rw [hw] at h1; cases h1
    | some q' => rw [hw] at h1; exact ⟨q', rfl, Option.some.inj h1⟩
  refine ⟨fun i j p q hp hq hpq => ?_, fun k q hq => ?_⟩
  · obtain ⟨p', hp', e1⟩ := at' i p hp
    obtain ⟨q', hq', e2⟩ := at' j q hq
    exact h.1 i j p' q' hp' hq' (by rw [e1, e2, hpq])
  · obtain ⟨q', hq', e2⟩ := at' k q hq
    rw [← e2]
    exact h.2 k q' hq'
end HELP
section CALLS
variable {p : Program} {l : Launch} {e : Env} {R : Room} {s : State} {m : MethodId} {args : Array Value} {below : List Frame} {meth : Method} {c : Code} {H : Heap} {locs : List Loc} {cells slots : Nat} {Q : State → Prop}
variable {cc : ByteArray} {nL pc : Nat} {ls : Array Slot} {rest st : List Value} {D : va_G} {A : Nat → Prop} {tys : List (ClassId × FieldType)} {ws : va_W} {own : String}
/-- what stands all through a method's walk -/
def mFix (p : Program) (s : State) (m : MethodId) (args : Array Value) (c : Code) (cc : ByteArray) (nL : Nat) (own : String) : Prop :=
  p.tables.exec = Jvm.exec ∧ c.code = cc ∧ c.maxLocals = nL ∧ s.vm.findClass own = some m.cls ∧ ∀ w ∈ gw, w.before args s = true
/-- the words and the room of a call by a virtual invocation -/
def kV (R : Room) (own C : String) (idx : Nat) (y : MethodName) (bytes : ByteArray) (maxL : Nat) (ret : Option FieldType) (rm : Room) (n : Nat) : Prop :=
  GoodIn gw (wsV own idx C y (.code y bytes maxL ret :: gw)) ∧ (y.cls = C ∧ y.cls ≠ "java/lang/invoke/MethodHandle" ∧ y.cls ≠ "java/lang/invoke/VarHandle" ∧ (parseMethodDescriptor y.desc).map (fun d => d.parameters.length) = some n) ∧ rm.frames + 1 ≤ R.frames ∧ 8 + (maxL + 11) + rm.locals ≤ R.locals
def kS (R : Room) (own : String) (idx : Nat) (y : MethodName) (bytes : ByteArray) (maxL : Nat) (ret : Option FieldType) (rm : Room) (n : Nat) : Prop :=
  GoodIn gw (wsS own idx y (.code y bytes maxL ret :: gw)) ∧ (y.cls = own ∧ y.cls ≠ "java/lang/invoke/MethodHandle" ∧ y.cls ≠ "java/lang/invoke/VarHandle" ∧ (parseMethodDescriptor y.desc).map (fun d => d.parameters.length) = some n) ∧ rm.frames + 1 ≤ R.frames ∧ 8 + (maxL + 11) + rm.locals ≤ R.locals
def kI (R : Room) (own : String) (idx : Nat) (y : MethodName) (bytes : ByteArray) (maxL : Nat) (rm : Room) (n : Nat) : Prop :=
  (Cond.code y bytes maxL none ∈ gw ∧ Cond.methodLink own idx y ∈ gw ∧ Cond.instanceMethod y ∈ gw ∧ Cond.initialized y.cls ∈ gw) ∧ y.name = "<init>" ∧ (y.cls ≠ "java/lang/invoke/MethodHandle" ∧ y.cls ≠ "java/lang/invoke/VarHandle" ∧ (parseMethodDescriptor y.desc).map (fun d => d.parameters.length) = some n) ∧ rm.frames + 1 ≤ R.frames ∧ 8 + (maxL + 11) + rm.locals ≤ R.locals
/-- the places of a call's cells: the callee's, the rest, apart -/
def mCut (ws wc wr : va_W) (isC isR : List Nat) : Prop := isC.map (fun i => ws[i]?) = wc.map some ∧ isR.map (fun i => ws[i]?) = wr.map some ∧ va_nd isC = true ∧ va_nd isR = true ∧ ∀ i ∈ isR, i ∉ isC
theorem mCut_P {wc wr : va_W} {isC isR : List Nat} (h : mCut ws wc wr isC isR) (hP : va_P D vwCl ws H) : va_P D vwCl wc H := by
  intro k q hq
  have h1 : (isC.map (fun i => ws[i]?))[k]? = some (some q) := by rw [h.1, List.getElem?_map, hq]; rfl
  rw [List.getElem?_map] at h1
  cases hi : isC[k]? with
  | none => rw [hi] at h1; cases h1
  | some i => rw [hi] at h1; exact hP i q (Option.some.inj h1)
theorem m_pre {wc wr : va_W} {isC isR : List Nat} {tyc : List (ClassId × FieldType)} {isT : List Nat} {X : (Nat → Prop) → State → Prop} {av : List Value} (hK : va_K D vwCl tys s) (hP : va_P D vwCl ws H) (hD : va_D A ws) (hC : mCut ws wc wr isC isR) (hT : isT.filterMap (fun i => tys[i]?) = tyc)
    (hX : ∀ U : State, U.heap = H → s.WarmedH U.vm → X (va_A wc H.size) U) (U : State) (hU : U.heap = H) (hW : s.WarmedH U.vm) : mPre D tyc wc (X (va_A wc H.size)) av H.size av.toArray U :=
  ⟨rfl, by rw [hU], by rw [hU]; exact mCut_P hC hP, va_K.moved hW.alike (hK.sub isT hT), (hD.sub isC hC.2.2.1 hC.1).weaken (fun _ _ _ _ => trivial), hX U hU hW⟩
theorem m_back {S : Type} {tys1 : S → List (ClassId × FieldType)} {w1 : S → va_W} {wc wr : va_W} {isC isR : List Nat} {u : S} {t : State} {H1 : Heap} (hP : va_P D vwCl ws H) (hD : va_D A ws) (hS : va_S A s.heap H locs) (hA : ∀ q, s.heap.size ≤ q → A q) (hC : mCut ws wc wr isC isR)
    (ht : t.heap = H1) (hvm : s.vm.Alike t.vm) (hB : mB D (va_A wc H.size) tys1 w1 u t) (hk : ∀ q : Nat, q < H.size → ¬ va_A wc H.size q → H1[q]? = H[q]?) : va_K D vwCl (tys1 u) s ∧ va_P D vwCl (wr ++ w1 u) H1 ∧ va_D A (wr ++ w1 u) := by
  obtain ⟨hP1, hK1, hD1⟩ := hB
  rw [ht] at hP1
  exact ⟨va_K.moved hvm.symm hK1, va_join hP hD isC isR hC.1 hC.2.1 hC.2.2.2.1 hC.2.2.2.2 hk (va_free hD hS hA isC hC.1) hP1 hD1⟩
theorem mc_Vi {C : String} {idx : Nat} {y : MethodName} {bytes : ByteArray} {maxL n : Nat} {ret : Option FieldType} {rm : Room} {tyc : List (ClassId × FieldType)} {wc wr : va_W} {X : (Nat → Prop) → State → Prop} {As : List Value} {S : Type} {post : Int32 → S → Prop} {tys1 : S → List (ClassId × FieldType)} {w1 : S → va_W} {b ci : Nat} {fs : List Value} {T : u_T} {N : Nat}
    (F : mFix p s m args c cc nL own) (hK : va_K D vwCl tys s) (hP : va_P D vwCl ws H) (hD : va_D A ws) (hS : va_S A s.heap H locs) (hA : ∀ q, s.heap.size ≤ q → A q)
    (hM : cI l y (.code y bytes maxL ret) rm D tyc wc X (.ref b :: As) post tys1 w1) (k : kV R own C idx y bytes maxL ret rm n) (isC isR isT : List Nat) (hC : mCut ws wc wr isC isR) (hT : isT.filterMap (fun i => tys[i]?) = tyc) (hXm : xMove X) (hX : ∀ U : State, U.heap = H → s.WarmedH U.vm → X (va_A wc H.size) U)
    (q0 : Nat) (hq : ws[q0]? = some (b, .inr (ci, fs))) (hcl : vwCl[ci]? = some (C, T, N)) (hn : As.length = n) (hls : ls.size = nL) (hst : st = As.reverse ++ .ref b :: rest) (hroom : (rest.map fun v => v.category).sum ≤ 8) (hdg : decode cc pc = .ok (.invokevirtual idx, 3)) (hf : cells + rm.cells ≤ R.cells ∧ slots + rm.slots ≤ R.slots)
    (kk : ∀ (r : Int32) (u : S) (H1 : Heap) (locs1 : List Loc), post r u → va_K D vwCl (tys1 u) s → va_P D vwCl (wr ++ w1 u) H1 → va_D A (wr ++ w1 u) → va_S A s.heap H1 locs1 → W p l e R s m args below meth c H1 locs1 (cells + rm.cells) (slots + rm.slots) Q (F0 m (pc + 3) ls (.int r :: rest))) :
    W p l e R s m args below meth c H locs cells slots Q (F0 m pc ls st) := by
  subst hst
  obtain ⟨hx, hb, hml, hown, hts⟩ := F
  have hFc := va_free (wc := wc) hD hS hA isC hC.1
  have hrv : ∃ cellB : Cell, H[b]? = some cellB ∧ cellB.vm.isStatics = false ∧ s.vm.findClass C = some cellB.cls := va_recv hK hP hcl hq
  exact va_calli (va_runV (As := As) (rest := rest) ⟨hx, hb, hml, hown, hts⟩ (hM H.size) (cwV n hts k.1 rfl rfl rfl k.2.1 k.2.2) ⟨mPre_blind hXm, hrv, m_pre hK hP hD hC hT hX⟩ rfl hn hls rfl (lv_room hroom) hdg hf) hS (fun q _ h => hFc q h) hFc
    (fun r u t H1 locs1 ht hvm hw hB _ hk1 hS1 => by
      obtain ⟨a1, a2, a3⟩ := m_back hP hD hS hA hC ht hvm hB hk1
      exact kk r u H1 locs1 hw a1 a2 a3 hS1)
theorem mc_Vv {C : String} {idx : Nat} {y : MethodName} {bytes : ByteArray} {maxL n : Nat} {ret : Option FieldType} {rm : Room} {tyc : List (ClassId × FieldType)} {wc wr : va_W} {X : (Nat → Prop) → State → Prop} {As : List Value} {S : Type} {post : S → Prop} {tys1 : S → List (ClassId × FieldType)} {w1 : S → va_W} {b ci : Nat} {fs : List Value} {T : u_T} {N : Nat}
    (F : mFix p s m args c cc nL own) (hK : va_K D vwCl tys s) (hP : va_P D vwCl ws H) (hD : va_D A ws) (hS : va_S A s.heap H locs) (hA : ∀ q, s.heap.size ≤ q → A q)
    (hM : cV l y (.code y bytes maxL ret) rm D tyc wc X (.ref b :: As) post tys1 w1) (k : kV R own C idx y bytes maxL ret rm n) (isC isR isT : List Nat) (hC : mCut ws wc wr isC isR) (hT : isT.filterMap (fun i => tys[i]?) = tyc) (hXm : xMove X) (hX : ∀ U : State, U.heap = H → s.WarmedH U.vm → X (va_A wc H.size) U)
    (q0 : Nat) (hq : ws[q0]? = some (b, .inr (ci, fs))) (hcl : vwCl[ci]? = some (C, T, N)) (hn : As.length = n) (hls : ls.size = nL) (hst : st = As.reverse ++ .ref b :: rest) (hroom : (rest.map fun v => v.category).sum ≤ 8) (hdg : decode cc pc = .ok (.invokevirtual idx, 3)) (hf : cells + rm.cells ≤ R.cells ∧ slots + rm.slots ≤ R.slots)
    (kk : ∀ (u : S) (H1 : Heap) (locs1 : List Loc), post u → va_K D vwCl (tys1 u) s → va_P D vwCl (wr ++ w1 u) H1 → va_D A (wr ++ w1 u) → va_S A s.heap H1 locs1 → W p l e R s m args below meth c H1 locs1 (cells + rm.cells) (slots + rm.slots) Q (F0 m (pc + 3) ls rest)) :
    W p l e R s m args below meth c H locs cells slots Q (F0 m pc ls st) := by
  subst hst
  obtain ⟨hx, hb, hml, hown, hts⟩ := F
  have hFc := va_free (wc := wc) hD hS hA isC hC.1
  have hrv : ∃ cellB : Cell, H[b]? = some cellB ∧ cellB.vm.isStatics = false ∧ s.vm.findClass C = some cellB.cls := va_recv hK hP hcl hq
  exact va_callv (va_runV (As := As) (rest := rest) ⟨hx, hb, hml, hown, hts⟩ (hM H.size) (cwV n hts k.1 rfl rfl rfl k.2.1 k.2.2) ⟨mPre_blind hXm, hrv, m_pre hK hP hD hC hT hX⟩ rfl hn hls rfl (lv_room hroom) hdg hf) hS (fun q _ h => hFc q h) hFc
    (fun u t H1 locs1 ht hvm hw hB _ hk1 hS1 => by
      obtain ⟨a1, a2, a3⟩ := m_back hP hD hS hA hC ht hvm hB hk1
      exact kk u H1 locs1 hw a1 a2 a3 hS1)
theorem mc_Vq {C : String} {idx : Nat} {y : MethodName} {bytes : ByteArray} {maxL n : Nat} {ret : Option FieldType} {rm : Room} {tyc : List (ClassId × FieldType)} {wc wr : va_W} {X : (Nat → Prop) → State → Prop} {As : List Value} {S : Type} {post : Option Nat → S → Prop} {tys1 : S → List (ClassId × FieldType)} {w1 : S → va_W} {b ci : Nat} {fs : List Value} {T : u_T} {N : Nat}
    (F : mFix p s m args c cc nL own) (hK : va_K D vwCl tys s) (hP : va_P D vwCl ws H) (hD : va_D A ws) (hS : va_S A s.heap H locs) (hA : ∀ q, s.heap.size ≤ q → A q)
    (hM : cQ l y (.code y bytes maxL ret) rm D tyc wc X (.ref b :: As) post tys1 w1) (k : kV R own C idx y bytes maxL ret rm n) (isC isR isT : List Nat) (hC : mCut ws wc wr isC isR) (hT : isT.filterMap (fun i => tys[i]?) = tyc) (hXm : xMove X) (hX : ∀ U : State, U.heap = H → s.WarmedH U.vm → X (va_A wc H.size) U)
    (q0 : Nat) (hq : ws[q0]? = some (b, .inr (ci, fs))) (hcl : vwCl[ci]? = some (C, T, N)) (hn : As.length = n) (hls : ls.size = nL) (hst : st = As.reverse ++ .ref b :: rest) (hroom : (rest.map fun v => v.category).sum ≤ 8) (hdg : decode cc pc = .ok (.invokevirtual idx, 3)) (hf : cells + rm.cells ≤ R.cells ∧ slots + rm.slots ≤ R.slots)
    (kk : ∀ (r : Option Nat) (u : S) (H1 : Heap) (locs1 : List Loc), post r u → va_K D vwCl (tys1 u) s → va_P D vwCl (wr ++ w1 u) H1 → va_D A (wr ++ w1 u) → va_S A s.heap H1 locs1 → W p l e R s m args below meth c H1 locs1 (cells + rm.cells) (slots + rm.slots) Q (F0 m (pc + 3) ls (va_rf r :: rest))) :
    W p l e R s m args below meth c H locs cells slots Q (F0 m pc ls st) := by
  subst hst
  obtain ⟨hx, hb, hml, hown, hts⟩ := F
  have hFc := va_free (wc := wc) hD hS hA isC hC.1
  have hrv : ∃ cellB : Cell, H[b]? = some cellB ∧ cellB.vm.isStatics = false ∧ s.vm.findClass C = some cellB.cls := va_recv hK hP hcl hq
  exact va_callq (va_runV (As := As) (rest := rest) ⟨hx, hb, hml, hown, hts⟩ (hM H.size) (cwV n hts k.1 rfl rfl rfl k.2.1 k.2.2) ⟨mPre_blind hXm, hrv, m_pre hK hP hD hC hT hX⟩ rfl hn hls rfl (lv_room hroom) hdg hf) hS (fun q _ h => hFc q h) hFc
    (fun r u t H1 locs1 ht hvm hw hB _ hk1 hS1 => by
      obtain ⟨a1, a2, a3⟩ := m_back hP hD hS hA hC ht hvm hB hk1
      exact kk r u H1 locs1 hw a1 a2 a3 hS1)
theorem mc_Si {idx : Nat} {y : MethodName} {bytes : ByteArray} {maxL n : Nat} {ret : Option FieldType} {rm : Room} {tyc : List (ClassId × FieldType)} {wc wr : va_W} {X : (Nat → Prop) → State → Prop} {As : List Value} {S : Type} {post : Int32 → S → Prop} {tys1 : S → List (ClassId × FieldType)} {w1 : S → va_W}
    (F : mFix p s m args c cc nL own) (hK : va_K D vwCl tys s) (hP : va_P D vwCl ws H) (hD : va_D A ws) (hS : va_S A s.heap H locs) (hA : ∀ q, s.heap.size ≤ q → A q)
    (hM : cI l y (.code y bytes maxL ret) rm D tyc wc X As post tys1 w1) (k : kS R own idx y bytes maxL ret rm n) (isC isR isT : List Nat) (hC : mCut ws wc wr isC isR) (hT : isT.filterMap (fun i => tys[i]?) = tyc) (hXm : xMove X) (hX : ∀ U : State, U.heap = H → s.WarmedH U.vm → X (va_A wc H.size) U)
    (hn : As.length = n) (hls : ls.size = nL) (hst : st = As.reverse ++ rest) (hroom : (rest.map fun v => v.category).sum ≤ 8) (hdg : decode cc pc = .ok (.invokestatic idx, 3)) (hf : cells + rm.cells ≤ R.cells ∧ slots + rm.slots ≤ R.slots)
    (kk : ∀ (r : Int32) (u : S) (H1 : Heap) (locs1 : List Loc), post r u → va_K D vwCl (tys1 u) s → va_P D vwCl (wr ++ w1 u) H1 → va_D A (wr ++ w1 u) → va_S A s.heap H1 locs1 → W p l e R s m args below meth c H1 locs1 (cells + rm.cells) (slots + rm.slots) Q (F0 m (pc + 3) ls (.int r :: rest))) :
    W p l e R s m args below meth c H locs cells slots Q (F0 m pc ls st) := by
  subst hst
  obtain ⟨hx, hb, hml, hown, hts⟩ := F
  have hFc := va_free (wc := wc) hD hS hA isC hC.1
  exact va_calli (va_runS (As := As) (rest := rest) ⟨hx, hb, hml, hown, hts⟩ (hM H.size) (cwS n hts k.1 rfl rfl rfl k.2.1 k.2.2) ⟨mPre_blind hXm, m_pre hK hP hD hC hT hX⟩ rfl hn hls rfl (lv_room hroom) hdg hf) hS (fun q _ h => hFc q h) hFc
    (fun r u t H1 locs1 ht hvm hw hB _ hk1 hS1 => by
      obtain ⟨a1, a2, a3⟩ := m_back hP hD hS hA hC ht hvm hB hk1
      exact kk r u H1 locs1 hw a1 a2 a3 hS1)
theorem mc_Iv {idx : Nat} {y : MethodName} {bytes : ByteArray} {maxL n : Nat} {rm : Room} {tyc : List (ClassId × FieldType)} {wc wr : va_W} {X : (Nat → Prop) → State → Prop} {As : List Value} {S : Type} {post : S → Prop} {tys1 : S → List (ClassId × FieldType)} {w1 : S → va_W} {b : Nat}
    (F : mFix p s m args c cc nL own) (hK : va_K D vwCl tys s) (hP : va_P D vwCl ws H) (hD : va_D A ws) (hS : va_S A s.heap H locs) (hA : ∀ q, s.heap.size ≤ q → A q)
    (hM : cV l y (.code y bytes maxL none) rm D tyc wc X (.ref b :: As) post tys1 w1) (k : kI R own idx y bytes maxL rm n) (isC isR isT : List Nat) (hC : mCut ws wc wr isC isR) (hT : isT.filterMap (fun i => tys[i]?) = tyc) (hXm : xMove X) (hX : ∀ U : State, U.heap = H → s.WarmedH U.vm → X (va_A wc H.size) U)
    (hn : As.length = n) (hls : ls.size = nL) (hst : st = As.reverse ++ .ref b :: rest) (hroom : (rest.map fun v => v.category).sum ≤ 8) (hdg : decode cc pc = .ok (.invokespecial idx, 3)) (hf : cells + rm.cells ≤ R.cells ∧ slots + rm.slots ≤ R.slots)
    (kk : ∀ (u : S) (H1 : Heap) (locs1 : List Loc), post u → va_K D vwCl (tys1 u) s → va_P D vwCl (wr ++ w1 u) H1 → va_D A (wr ++ w1 u) → va_S A s.heap H1 locs1 → W p l e R s m args below meth c H1 locs1 (cells + rm.cells) (slots + rm.slots) Q (F0 m (pc + 3) ls rest)) :
    W p l e R s m args below meth c H locs cells slots Q (F0 m pc ls st) := by
  subst hst
  obtain ⟨hx, hb, hml, hown, hts⟩ := F
  have hFc := va_free (wc := wc) hD hS hA isC hC.1
  exact va_callv (va_runI (As := As) (rest := rest) ⟨hx, hb, hml, hown, hts⟩ (hM H.size) (cwI n hts (gi_c k.1.1) rfl rfl rfl (hts _ k.1.2.2.2) (hts _ k.1.2.1) (hts _ k.1.2.2.1) k.2.1 k.2.2.1 k.2.2.2) ⟨mPre_blind hXm, m_pre hK hP hD hC hT hX⟩ rfl hn hls rfl (lv_room hroom) hdg hf) hS (fun q _ h => hFc q h) hFc
    (fun u t H1 locs1 ht hvm hw hB _ hk1 hS1 => by
      obtain ⟨a1, a2, a3⟩ := m_back hP hD hS hA hC ht hvm hB hk1
      exact kk u H1 locs1 hw a1 a2 a3 hS1)
end CALLS
