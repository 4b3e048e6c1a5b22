section RDH
def enN : List String := ["BEAR", "MELT", "APART", "NEAR", "HEAL", "FEE", "STAIR"]
def enSl : List Int32 := [0, 1, 3, 4, 5, 6, 8]
def enNu : List Int32 := [1, 2, 1, 1, 1, 2, 3]
def enLe : List Int32 := [1, 0, 0, 0, 1, 0, 0]
def enMo : List Int32 := [999, 9, 9, 4, 99, 99, 9]
def enF : List (String × String × String × List Int32) := [(RX5, "slot", "I", enSl), (RX5, "numbers", "I", enNu), (RX5, "least", "I", enLe), (RX5, "most", "I", enMo)]
def stL : List Nat := [4, 4, 5, 4, 4, 3, 5]
def stB : List (List Int32) := [[98, 101, 97, 114], [109, 101, 108, 116], [97, 112, 97, 114, 116], [110, 101, 97, 114], [104, 101, 97, 108], [102, 101, 101], [115, 116, 97, 105, 114]]
def slN (i : Nat) : Nat := ([0, 1, 3, 4, 5, 6, 8] : List Nat).getD i 0
def nuN (i : Nat) : Nat := ([1, 2, 1, 1, 1, 2, 3] : List Nat).getD i 0
def lenN (i : Nat) : Nat := stL.getD i 0
theorem enSl_nI : ∀ i, i < 7 → enSl.getD i 0 = nI (slN i) := by decide +kernel
theorem enNu_nI : ∀ i, i < 7 → enNu.getD i 0 = nI (nuN i) := by decide +kernel
theorem nuN_le : ∀ i, i < 7 → nuN i ≤ 3 := by decide +kernel
theorem lenN_le : ∀ i, i < 7 → lenN i ≤ 5 := by decide +kernel
theorem sl_nu : ∀ i, i < 7 → i ≠ 6 → slN i + nuN i ≤ 8 := by decide +kernel
theorem shr0 : ∀ i, i < 7 → nI (lenN i) >>> ((0 : Int32) &&& 31) = nI (lenN i) := by decide +kernel
/-- the words of the kinds, as String constants -/
def xS (kk : Nat → Nat) : (Nat → Prop) → State → Prop := fun A U => ∃ kv : Nat → Nat, vk_S 7 stL stB kk kv A U U.heap ∧ va_Z "java/lang/String" "COMPACT_STRINGS" "Z" (.int 1) A U U.heap ∧ va_Zq "jdk/internal/util/Preconditions" "SIOOBE_FORMATTER" "Ljava/util/function/BiFunction;" A U U.heap
theorem xS_move (kk : Nat → Nat) : xMove (xS kk) := by
  intro A U V hvm hh h
  obtain ⟨kv, h1, h2, h3⟩ := h
  have al : U.vm.Alike V.vm := by rw [hvm]; exact Vm.Alike.refl _
  exact ⟨kv, by rw [hh]; exact vk_S.moved al h1, by rw [hh]; exact va_Z.moved al h2, by rw [hh]; exact va_Zq.moved al h3⟩
theorem xS_use {kk : Nat → Nat} {s : State} {A : Nat → Prop} {H : Heap} {locs : List Loc} {wc : va_W} (hX : xS kk A s) (hS : va_S A s.heap H locs) (hF : ∀ q, va_A wc H.size q → A q) : ∀ U : State, U.heap = H → s.WarmedH U.vm → xS kk (va_A wc H.size) U := by
  intro U hU hW
  obtain ⟨kv, h1, h2, h3⟩ := hX
  exact ⟨kv, by rw [hU]; exact vk_S.moved hW.alike ((h1.kept hS.2.1).narrow hF), by rw [hU]; exact va_Z.moved hW.alike ((h2.kept hS.2.1).narrow hF), by rw [hU]; exact va_Zq.moved hW.alike ((h3.kept hS.2.1).narrow hF)⟩
/-- a table of bytes, where nobody writes -/
def xB (t N : Nat) (f : Nat → Value) : (Nat → Prop) → State → Prop := fun A U => va_T .byte t N f A U U.heap ∧ va_Zq "jdk/internal/util/Preconditions" "SIOOBE_FORMATTER" "Ljava/util/function/BiFunction;" A U U.heap
theorem xB_move (t N : Nat) (f : Nat → Value) : xMove (xB t N f) := by
  intro A U V hvm hh h
  have al : U.vm.Alike V.vm := by rw [hvm]; exact Vm.Alike.refl _
  exact ⟨by rw [hh]; exact va_T.moved al h.1, by rw [hh]; exact va_Zq.moved al h.2⟩
theorem xB_use {t N : Nat} {f : Nat → Value} {s : State} {A : Nat → Prop} {H : Heap} {locs : List Loc} {wc : va_W} (hX : xB t N f A s) (hS : va_S A s.heap H locs) (hF : ∀ q, va_A wc H.size q → A q) : ∀ U : State, U.heap = H → s.WarmedH U.vm → xB t N f (va_A wc H.size) U := by
  intro U hU hW
  exact ⟨by rw [hU]; exact va_T.moved hW.alike ((hX.1.kept hS.2.1).narrow hF), by rw [hU]; exact va_Zq.moved hW.alike ((hX.2.kept hS.2.1).narrow hF)⟩
def xZq : (Nat → Prop) → State → Prop := fun A U => va_Zq "jdk/internal/util/Preconditions" "SIOOBE_FORMATTER" "Ljava/util/function/BiFunction;" A U U.heap
theorem xZq_move : xMove xZq := by
  intro A U V hvm hh h
  have al : U.vm.Alike V.vm := by rw [hvm]; exact Vm.Alike.refl _
  show va_Zq _ _ _ A V V.heap
  rw [hh]; exact va_Zq.moved al h
theorem xZq_use {s : State} {A : Nat → Prop} {H : Heap} {locs : List Loc} {wc : va_W} (hX : xZq A s) (hS : va_S A s.heap H locs) (hF : ∀ q, va_A wc H.size q → A q) : ∀ U : State, U.heap = H → s.WarmedH U.vm → xZq (va_A wc H.size) U := by
  intro U hU hW
  show va_Zq _ _ _ _ U U.heap
  rw [hU]; exact va_Zq.moved hW.alike ((va_Zq.kept hX hS.2.1).narrow hF)
/-- the constants of the kinds of lines -/
def xN (en : Nat → Nat) : (Nat → Prop) → State → Prop := fun A U => va_En RX5 "LIceFair$LineKind;" enN enF en A U U.heap
theorem xN_move (en : Nat → Nat) : xMove (xN en) := by
  intro A U V hvm hh h
  have al : U.vm.Alike V.vm := by rw [hvm]; exact Vm.Alike.refl _
  show va_En _ _ _ _ _ A V V.heap
  rw [hh]; exact va_En.moved al h
theorem xN_use {en : Nat → Nat} {s : State} {A : Nat → Prop} {H : Heap} {locs : List Loc} {wc : va_W} (hX : xN en A s) (hS : va_S A s.heap H locs) (hF : ∀ q, va_A wc H.size q → A q) : ∀ U : State, U.heap = H → s.WarmedH U.vm → xN en (va_A wc H.size) U := by
  intro U hU hW
  show va_En _ _ _ _ _ _ U U.heap
  rw [hU]; exact va_En.moved hW.alike ((va_En.kept hX hS.2.1).narrow hF)
def xR (en kk : Nat → Nat) : (Nat → Prop) → State → Prop := fun A U => xS kk A U ∧ xN en A U ∧ va_Ef 7 RX5 "word" "Ljava/lang/String;" (fun i => .ref (kk i)) en A U U.heap ∧ (∃ al : Nat, va_Z RX5 "ALL" "[LIceFair$LineKind;" (.ref al) A U U.heap ∧ va_T (.object RX5) al 7 (fun j => .ref (en j)) A U U.heap) ∧ va_Nw (.fieldLinkNest RX2 90 RX5 "ALL" "[LIceFair$LineKind;" "IceFair") U
theorem xR_move (en kk : Nat → Nat) : xMove (xR en kk) := by
  intro A U V hvm hh h
  obtain ⟨h1, h2, h3, ⟨al, h4, h5⟩, h6⟩ := h
  have a9 : U.vm.Alike V.vm := by rw [hvm]; exact Vm.Alike.refl _
  exact ⟨xS_move kk A U V hvm hh h1, xN_move en A U V hvm hh h2, by rw [hh]; exact va_Ef.moved a9 h3, ⟨al, by rw [hh]; exact va_Z.moved a9 h4, by rw [hh]; exact va_T.moved a9 h5⟩, va_Nw.same rfl hvm h6⟩
theorem xR_use {en kk : Nat → Nat} {s : State} {A : Nat → Prop} {H : Heap} {locs : List Loc} {wc : va_W} (hX : xR en kk A s) (hS : va_S A s.heap H locs) (hF : ∀ q, va_A wc H.size q → A q) : ∀ U : State, U.heap = H → s.WarmedH U.vm → xR en kk (va_A wc H.size) U := by
  intro U hU hW
  obtain ⟨h1, h2, h3, ⟨al, h4, h5⟩, h6⟩ := hX
  exact ⟨xS_use h1 hS hF U hU hW, xN_use h2 hS hF U hU hW, by rw [hU]; exact va_Ef.moved hW.alike ((h3.kept hS.2.1).narrow hF), ⟨al, by rw [hU]; exact va_Z.moved hW.alike ((h4.kept hS.2.1).narrow hF), by rw [hU]; exact va_T.moved hW.alike ((h5.kept hS.2.1).narrow hF)⟩, va_Nw.warmF hW h6⟩
def xC (us : Nat) (en kk : Nat → Nat) : (Nat → Prop) → State → Prop := fun A U => xU us A U ∧ xR en kk A U
theorem xC_move (us : Nat) (en kk : Nat → Nat) : xMove (xC us en kk) := fun A U V hvm hh h => ⟨xU_move us A U V hvm hh h.1, xR_move en kk A U V hvm hh h.2⟩
theorem xC_use {us : Nat} {en kk : Nat → Nat} {s : State} {A : Nat → Prop} {H : Heap} {locs : List Loc} {wc : va_W} (hX : xC us en kk A s) (hS : va_S A s.heap H locs) (hF : ∀ q, va_A wc H.size q → A q) : ∀ U : State, U.heap = H → s.WarmedH U.vm → xC us en kk (va_A wc H.size) U :=
  fun U hU hW => ⟨xU_use hX.1 hS hF U hU hW, xR_use hX.2 hS hF U hU hW⟩
variable {p : Program} {l : Launch} {e : Env} {R : Room} {s : State} {m : MethodId} {args : Array Value} {below : List Frame} {meth : Method} {c : Code} {H : Heap} {locs : List Loc} {cells slots : Nat} {Q : State → Prop}
variable {cc : ByteArray} {nL pc : Nat} {ls : Array Slot} {rest st : List Value} {D : va_G} {A : Nat → Prop} {tys : List (ClassId × FieldType)} {ws : va_W} {own : String}
/-- an int field of a constant -/
theorem x_getE (hexec : p.tables.exec = Jvm.exec) (hb : c.code = cc) {en : Nat → Nat} {i index : Nat} (hX : xN en A s) (hi : i < 7) (hS : va_S A s.heap H locs) (hown : s.vm.findClass own = some m.cls) {q : String × String × String × List Int32} (hq : q ∈ enF) (h1 : q.1 = RX5) (hlink : (Cond.fieldLink own index RX5 q.2.1 q.2.2.1).before args s = true) (hdg : decode cc pc = .ok (.getfield index, 3))
    (kk : W p l e R s m args below meth c H locs cells slots Q (F0 m (pc + 3) ls (.int (q.2.2.2.getD i 0) :: rest))) : W p l e R s m args below meth c H locs cells slots Q (F0 m pc ls (.ref (en i) :: rest)) :=
  va_getE hexec hb hX hi hS hown hq hlink (fun x hx => by rw [h1] at hx; exact hx) hdg kk
theorem x_rvE {en : Nat → Nat} {i : Nat} (hX : xN en A s) (hi : i < 7) (hS : va_S A s.heap H locs) : ∃ cellB : Cell, H[en i]? = some cellB ∧ cellB.vm.isStatics = false ∧ s.vm.findClass RX5 = some cellB.cls := va_recvE hX hi hS
theorem x_rvS {kk : Nat → Nat} {i : Nat} (hX : xS kk A s) (hi : i < 7) (hS : va_S A s.heap H locs) : ∃ cellB : Cell, H[kk i]? = some cellB ∧ cellB.vm.isStatics = false ∧ s.vm.findClass RJ0 = some cellB.cls := by
  obtain ⟨kv, h1, -⟩ := hX
  exact vk_recv h1 hi hS
/-- two constants are one only at one place -/
theorem x_ne {en : Nat → Nat} {i j : Nat} (hX : xN en A s) (hi : i < 7) (hj : j < 7) (h : en i = en j) : i = j := hX.2 i j hi hj h
def kZ (R : Room) (own : String) (idx : Nat) (y : MethodName) (bytes : ByteArray) (maxL : Nat) (ret : Option FieldType) (rm : Room) (n : Nat) : Prop :=
  GoodIn gw (va_wsS own idx y (.code y bytes maxL ret :: gw)) ∧ (y.cls ≠ "java/lang/invoke/MethodHandle" ∧ y.cls ≠ "java/lang/invoke/VarHandle" ∧ (parseMethodDescriptor y.desc).map (fun d => d.parameters.length) = some n) ∧ rm.frames + 1 ≤ R.frames ∧ 8 + (maxL + 11) + rm.locals ≤ R.locals
theorem x_acmp_ne (hexec : p.tables.exec = Jvm.exec) (hb : c.code = cc) {x y : Nat} {off : Int} {tgt : Nat} (hdg : decode cc pc = .ok (.if_acmp .ne off, 3)) (ht : (pc : Int) + off = (tgt : Int))
    (k1 : ¬ x = y → W p l e R s m args below meth c H locs cells slots Q (F0 m tgt ls rest)) (k2 : x = y → W p l e R s m args below meth c H locs cells slots Q (F0 m (pc + 3) ls rest)) : W p l e R s m args below meth c H locs cells slots Q (F0 m pc ls (.ref y :: .ref x :: rest)) :=
  lv_acmp_ne (rx := some x) (ry := some y) hexec hb hdg ht (fun h => k1 (fun q => h (by rw [q]))) (fun h => k2 (by cases h; rfl))
theorem mc_Ki {C : String} {idx : Nat} {y : MethodName} {bytes : ByteArray} {maxL n : Nat} {ret : Option FieldType} {rm : Room} {tyc : List (ClassId × FieldType)} {wc wr : va_W} {X : (Nat → Prop) → State → Prop} {As : List Value} {S : Type} {post : Int32 → S → Prop} {tys1 : S → List (ClassId × FieldType)} {w1 : S → va_W} {b : Nat}
    (F : mFix p s m args c cc nL own) (hK : va_K D vwCl tys s) (hP : va_P D vwCl ws H) (hD : va_D A ws) (hS : va_S A s.heap H locs) (hA : ∀ q, s.heap.size ≤ q → A q)
    (hM : cI l y (.code y bytes maxL ret) rm D tyc wc X (.ref b :: As) post tys1 w1) (k : kV R own C idx y bytes maxL ret rm n) (isC isR isT : List Nat) (hC : mCut ws wc wr isC isR) (hT : isT.filterMap (fun i => tys[i]?) = tyc) (hXm : xMove X) (hX : ∀ U : State, U.heap = H → s.WarmedH U.vm → X (va_A wc H.size) U)
    (hrv : ∃ cellB : Cell, H[b]? = some cellB ∧ cellB.vm.isStatics = false ∧ s.vm.findClass C = some cellB.cls) (hn : As.length = n) (hls : ls.size = nL) (hst : st = As.reverse ++ .ref b :: rest) (hroom : (rest.map fun v => v.category).sum ≤ 8) (hdg : decode cc pc = .ok (.invokevirtual idx, 3)) (hf : cells + rm.cells ≤ R.cells ∧ slots + rm.slots ≤ R.slots)
    (kk : ∀ (r : Int32) (u : S) (H1 : Heap) (locs1 : List Loc), post r u → va_K D vwCl (tys1 u) s → va_P D vwCl (wr ++ w1 u) H1 → va_D A (wr ++ w1 u) → va_S A s.heap H1 locs1 → W p l e R s m args below meth c H1 locs1 (cells + rm.cells) (slots + rm.slots) Q (F0 m (pc + 3) ls (.int r :: rest))) :
    W p l e R s m args below meth c H locs cells slots Q (F0 m pc ls st) := by
  subst hst
  obtain ⟨hx, hb, hml, hown, hts⟩ := F
  have hFc := va_free (wc := wc) hD hS hA isC hC.1
  exact va_calli (va_runV (As := As) (rest := rest) ⟨hx, hb, hml, hown, hts⟩ (hM H.size) (cwV n hts k.1 rfl rfl rfl k.2.1 k.2.2) ⟨mPre_blind hXm, hrv, m_pre hK hP hD hC hT hX⟩ rfl hn hls rfl (lv_room hroom) hdg hf) hS (fun q _ h => hFc q h) hFc
    (fun r u t H1 locs1 ht hvm hw hB _ hk1 hS1 => by
      obtain ⟨a1, a2, a3⟩ := m_back hP hD hS hA hC ht hvm hB hk1
      exact kk r u H1 locs1 hw a1 a2 a3 hS1)
theorem mc_Zi {idx : Nat} {y : MethodName} {bytes : ByteArray} {maxL n : Nat} {ret : Option FieldType} {rm : Room} {tyc : List (ClassId × FieldType)} {wc wr : va_W} {X : (Nat → Prop) → State → Prop} {As : List Value} {S : Type} {post : Int32 → S → Prop} {tys1 : S → List (ClassId × FieldType)} {w1 : S → va_W}
    (F : mFix p s m args c cc nL own) (hK : va_K D vwCl tys s) (hP : va_P D vwCl ws H) (hD : va_D A ws) (hS : va_S A s.heap H locs) (hA : ∀ q, s.heap.size ≤ q → A q)
    (hM : cI l y (.code y bytes maxL ret) rm D tyc wc X As post tys1 w1) (k : kZ R own idx y bytes maxL ret rm n) (isC isR isT : List Nat) (hC : mCut ws wc wr isC isR) (hT : isT.filterMap (fun i => tys[i]?) = tyc) (hXm : xMove X) (hX : ∀ U : State, U.heap = H → s.WarmedH U.vm → X (va_A wc H.size) U)
    (hn : As.length = n) (hls : ls.size = nL) (hst : st = As.reverse ++ rest) (hroom : (rest.map fun v => v.category).sum ≤ 8) (hdg : decode cc pc = .ok (.invokestatic idx, 3)) (hf : cells + rm.cells ≤ R.cells ∧ slots + rm.slots ≤ R.slots)
    (kk : ∀ (r : Int32) (u : S) (H1 : Heap) (locs1 : List Loc), post r u → va_K D vwCl (tys1 u) s → va_P D vwCl (wr ++ w1 u) H1 → va_D A (wr ++ w1 u) → va_S A s.heap H1 locs1 → W p l e R s m args below meth c H1 locs1 (cells + rm.cells) (slots + rm.slots) Q (F0 m (pc + 3) ls (.int r :: rest))) :
    W p l e R s m args below meth c H locs cells slots Q (F0 m pc ls st) := by
  subst hst
  obtain ⟨hx, hb, hml, hown, hts⟩ := F
  have hFc := va_free (wc := wc) hD hS hA isC hC.1
  exact va_calli (va_runS (As := As) (rest := rest) ⟨hx, hb, hml, hown, hts⟩ (hM H.size) (va_cwS n hts k.1 rfl rfl rfl k.2.1 k.2.2) ⟨mPre_blind hXm, m_pre hK hP hD hC hT hX⟩ rfl hn hls rfl (lv_room hroom) hdg hf) hS (fun q _ h => hFc q h) hFc
    (fun r u t H1 locs1 ht hvm hw hB _ hk1 hS1 => by
      obtain ⟨a1, a2, a3⟩ := m_back hP hD hS hA hC ht hvm hB hk1
      exact kk r u H1 locs1 hw a1 a2 a3 hS1)
theorem mc_Zv {idx : Nat} {y : MethodName} {bytes : ByteArray} {maxL n : Nat} {ret : Option FieldType} {rm : Room} {tyc : List (ClassId × FieldType)} {wc wr : va_W} {X : (Nat → Prop) → State → Prop} {As : List Value} {S : Type} {post : S → Prop} {tys1 : S → List (ClassId × FieldType)} {w1 : S → va_W}
    (F : mFix p s m args c cc nL own) (hK : va_K D vwCl tys s) (hP : va_P D vwCl ws H) (hD : va_D A ws) (hS : va_S A s.heap H locs) (hA : ∀ q, s.heap.size ≤ q → A q)
    (hM : cV l y (.code y bytes maxL ret) rm D tyc wc X As post tys1 w1) (k : kZ R own idx y bytes maxL ret rm n) (isC isR isT : List Nat) (hC : mCut ws wc wr isC isR) (hT : isT.filterMap (fun i => tys[i]?) = tyc) (hXm : xMove X) (hX : ∀ U : State, U.heap = H → s.WarmedH U.vm → X (va_A wc H.size) U)
    (hn : As.length = n) (hls : ls.size = nL) (hst : st = As.reverse ++ rest) (hroom : (rest.map fun v => v.category).sum ≤ 8) (hdg : decode cc pc = .ok (.invokestatic idx, 3)) (hf : cells + rm.cells ≤ R.cells ∧ slots + rm.slots ≤ R.slots)
    (kk : ∀ (u : S) (H1 : Heap) (locs1 : List Loc), post u → va_K D vwCl (tys1 u) s → va_P D vwCl (wr ++ w1 u) H1 → va_D A (wr ++ w1 u) → va_S A s.heap H1 locs1 → W p l e R s m args below meth c H1 locs1 (cells + rm.cells) (slots + rm.slots) Q (F0 m (pc + 3) ls rest)) :
    W p l e R s m args below meth c H locs cells slots Q (F0 m pc ls st) := by
  subst hst
  obtain ⟨hx, hb, hml, hown, hts⟩ := F
  have hFc := va_free (wc := wc) hD hS hA isC hC.1
  exact va_callv (va_runS (As := As) (rest := rest) ⟨hx, hb, hml, hown, hts⟩ (hM H.size) (va_cwS n hts k.1 rfl rfl rfl k.2.1 k.2.2) ⟨mPre_blind hXm, m_pre hK hP hD hC hT hX⟩ rfl hn hls rfl (lv_room hroom) hdg hf) hS (fun q _ h => hFc q h) hFc
    (fun u t H1 locs1 ht hvm hw hB _ hk1 hS1 => by
      obtain ⟨a1, a2, a3⟩ := m_back hP hD hS hA hC ht hvm hB hk1
      exact kk u H1 locs1 hw a1 a2 a3 hS1)
theorem gi_Z {own : String} {idx : Nat} {y : MethodName} {c : Cond} (h1 : Cond.methodLink own idx y ∈ gw) (h2 : Cond.static y ∈ gw) (h3 : Cond.initialized y.cls ∈ gw) (hc : c ∈ gw) : GoodIn gw (va_wsS own idx y (c :: gw)) :=
  gi_more (fun w h => by
    rcases List.mem_cons.mp h with rfl | h
    · exact h1
    rcases List.mem_cons.mp h with rfl | h
    · exact h2
    rcases List.mem_cons.mp h with rfl | h
    · exact h3
    · cases h) hc
end RDH
theorem rng310 {x : Int32} (h1 : ¬ x < 3) (h2 : ¬ 10 < x) : ∃ n : Nat, 3 ≤ n ∧ n ≤ 10 ∧ x = nI n := by
  have a1 := Int32.le_iff_toInt_le.mp (Int32.not_lt.mp h1)
  have a2 := Int32.le_iff_toInt_le.mp (Int32.not_lt.mp h2)
  have b1 : (3 : Int32).toInt = 3 := by decide
  have b2 : (10 : Int32).toInt = 10 := by decide
  refine ⟨x.toInt.toNat, by omega, by omega, ?_⟩
  apply Int32.toInt_inj.mp
  rw [nI_toInt (by omega)]
  omega
